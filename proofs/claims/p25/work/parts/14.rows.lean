/-! ===== the environment: classes, the words that calls between nest mates need ===== -/
abbrev nw_0 : Cond := (Jvm.Cond.methodLinkNest "WeekBank" (39 : Nat) ({ cls := "WeekBank$Reader", name := "<init>", desc := "()V" } : Jvm.MethodName) "WeekBank")
abbrev nw_1 : Cond := (Jvm.Cond.methodLinkNest "WeekBank" (62 : Nat) ({ cls := "WeekBank$RingSearch", name := "<init>", desc := "()V" } : Jvm.MethodName) "WeekBank")
abbrev nw_2 : Cond := (Jvm.Cond.methodLinkNest "WeekBank" (69 : Nat) ({ cls := "WeekBank$FeeRounds", name := "<init>", desc := "()V" } : Jvm.MethodName) "WeekBank")
abbrev nw_3 : Cond := (Jvm.Cond.methodLinkNest "WeekBank$Flat" (37 : Nat) ({ cls := "WeekBank", name := "isWeek", desc := "(I)Z" } : Jvm.MethodName) "WeekBank")
abbrev nw_4 : Cond := (Jvm.Cond.methodLinkNest "WeekBank$Rules" (41 : Nat) ({ cls := "WeekBank", name := "isSize", desc := "(I)Z" } : Jvm.MethodName) "WeekBank")
abbrev nw_5 : Cond := (Jvm.Cond.methodLinkNest "WeekBank$Rules" (45 : Nat) ({ cls := "WeekBank", name := "isWeek", desc := "(I)Z" } : Jvm.MethodName) "WeekBank")
abbrev nse : String := "java/util/NoSuchElementException"
def ex (sz : Nat) (U : State) : Prop := (vx_Zq Bundle.tN "UNASSIGNED_STACK" Bundle.steD (ty_A sz) U U.heap ∧ vx_Zq Bundle.tN "SUPPRESSED_SENTINEL" Bundle.listD (ty_A sz) U U.heap) ∧ (va_Nw (.declares (Bundle.initS "java/lang/RuntimeException")) U ∧ va_Nw (.declares (Bundle.initS "java/lang/Exception")) U ∧ va_Nw (.declares (Bundle.initS Bundle.tN)) U ∧ va_Nw (.castable nse nse) U) ∧ ((∃ sa, vk_R RX8 275 "no such gift" sa U) ∧ ∃ sa, vk_R RX8 289 "nothing of a gift has that number" sa U)
theorem ex.go {sz : Nat} {s U : State} {H : Heap} {locs : List Loc} (h : ex sz s) (hS : va_S (ty_A sz) s.heap H locs) (hU : U.heap = H) (hW : s.WarmedH U.vm) : ex sz U := by
  obtain ⟨⟨a1, a2⟩, ⟨b1, b2, b3, b4⟩, ⟨s1, c1⟩, s2, c2⟩ := h
  refine ⟨⟨?_, ?_⟩, ⟨va_Nw.warmD hW b1, va_Nw.warmD hW b2, va_Nw.warmD hW b3, va_Nw.warmC hW b4⟩, ⟨s1, vk_R.warm hW c1⟩, s2, vk_R.warm hW c2⟩
  · rw [hU]; exact vx_Zq.moved hW.alike (a1.kept hS.2.1)
  · rw [hU]; exact vx_Zq.moved hW.alike (a2.kept hS.2.1)
theorem ex.blind {sz : Nat} {U : State} (h : ex sz U) (gg : JFrame) (mk : MethodId) (a : Array Value) : ex sz (U.calling gg mk a) := by
  obtain ⟨⟨a1, a2⟩, ⟨b1, b2, b3, b4⟩, ⟨s1, c1⟩, s2, c2⟩ := h
  exact ⟨⟨vx_Zq.moved (u := U) (U := U.calling gg mk a) (Vm.Alike.refl U.vm) a1, vx_Zq.moved (u := U) (U := U.calling gg mk a) (Vm.Alike.refl U.vm) a2⟩, ⟨va_Nw.same rfl (u := U) rfl b1, va_Nw.same rfl (u := U) rfl b2, va_Nw.same rfl (u := U) rfl b3, va_Nw.same rfl (u := U) rfl b4⟩, ⟨s1, vk_R.same (u := U) rfl c1⟩, s2, vk_R.same (u := U) rfl c2⟩
def sO (k : Nat) : String := if k < 6 then RX4 else RX9
def sI (k : Nat) : Nat := match k with
  | 0 => 67
  | 1 => 73
  | 2 => 75
  | 3 => 77
  | 4 => 102
  | 5 => 104
  | 6 => 170
  | 7 => 176
  | 8 => 177
  | 9 => 179
  | 10 => 184
  | 11 => 186
  | _ => 0
def sT (k : Nat) : String := match k with
  | 0 => "season"
  | 1 => "size"
  | 2 => "early"
  | 3 => "heirs"
  | 4 => "bound"
  | 5 => "free"
  | 6 => "season"
  | 7 => "size"
  | 8 => "early"
  | 9 => "heirs"
  | 10 => "bound"
  | 11 => "free"
  | _ => ""
def sB (k : Nat) : List Int32 := match k with
  | 0 => [115, 101, 97, 115, 111, 110]
  | 1 => [115, 105, 122, 101]
  | 2 => [101, 97, 114, 108, 121]
  | 3 => [104, 101, 105, 114, 115]
  | 4 => [98, 111, 117, 110, 100]
  | 5 => [102, 114, 101, 101]
  | 6 => [115, 101, 97, 115, 111, 110]
  | 7 => [115, 105, 122, 101]
  | 8 => [101, 97, 114, 108, 121]
  | 9 => [104, 101, 105, 114, 115]
  | 10 => [98, 111, 117, 110, 100]
  | 11 => [102, 114, 101, 101]
  | _ => []
def dW (k : Nat) : Int32 := match k with
  | 0 => 100000000
  | 1 => 10000000
  | 2 => 1000000
  | 3 => 100000
  | 4 => 10000
  | 5 => 1000
  | 6 => 100
  | 7 => 10
  | 8 => 1
  | _ => 0
/-- a string constant: one byte a sign -/
def so (adK adV : Nat) (bs : List Int32) (sz : Nat) (U : State) : Prop := va_O "java/lang/String" adK (ty_A sz) U U.heap ∧ va_OF "java/lang/String" "coder" "B" (.int 0) adK (ty_A sz) U U.heap ∧ va_OF "java/lang/String" "value" "[B" (.ref adV) adK (ty_A sz) U U.heap ∧ va_T .byte adV bs.length (fun j => .int (bs.getD j 0)) (ty_A sz) U U.heap
/-- the string constants, the statics that are read -/
def es (dI : Nat → Nat → Nat) (sz : Nat) (U : State) : Prop := (∀ k, k < 12 → vk_R (sO k) (sI k) (sT k) (dI 100 k) U ∧ so (dI 100 k) (dI 102 k) (sB k) sz U) ∧ va_Z "java/lang/String" "COMPACT_STRINGS" "Z" (.int 1) (ty_A sz) U U.heap ∧ (∃ o : Option Nat, va_Z "jdk/internal/util/Preconditions" "SIOOBE_FORMATTER" "Ljava/util/function/BiFunction;" (va_rf o) (ty_A sz) U U.heap) ∧ va_Z "WeekBank$RingSearch" "DIGIT_WORTH" "[I" (.ref (dI 101 0)) (ty_A sz) U U.heap ∧ va_T .int (dI 101 0) 9 (fun j => .int (dW j)) (ty_A sz) U U.heap
theorem so.go {adK adV : Nat} {bs : List Int32} {sz : Nat} {s U : State} {H : Heap} {locs : List Loc} (h : so adK adV bs sz s) (hS : va_S (ty_A sz) s.heap H locs) (hU : U.heap = H) (hW : s.WarmedH U.vm) : so adK adV bs sz U := by
  obtain ⟨h1, h2, h3, h4⟩ := h
  unfold so; rw [hU]
  exact ⟨va_O.moved hW.alike (h1.kept hS.2.1), va_OF.moved hW.alike (h2.kept hS.2.1), va_OF.moved hW.alike (h3.kept hS.2.1), va_T.moved hW.alike (h4.kept hS.2.1)⟩
theorem es.go {dI : Nat → Nat → Nat} {sz : Nat} {s U : State} {H : Heap} {locs : List Loc} (h : es dI sz s) (hS : va_S (ty_A sz) s.heap H locs) (hU : U.heap = H) (hW : s.WarmedH U.vm) : es dI sz U := by
  obtain ⟨h1, h2, ⟨o3, h3⟩, h4, h5⟩ := h
  refine ⟨fun k hk => ⟨vk_R.warm hW (h1 k hk).1, (h1 k hk).2.go hS hU hW⟩, ?_⟩
  rw [hU]
  exact ⟨va_Z.moved hW.alike (h2.kept hS.2.1), ⟨o3, va_Z.moved hW.alike (h3.kept hS.2.1)⟩, va_Z.moved hW.alike (h4.kept hS.2.1), va_T.moved hW.alike (h5.kept hS.2.1)⟩
theorem es.blind {dI : Nat → Nat → Nat} {sz : Nat} {U : State} (h : es dI sz U) (gg : JFrame) (mk : MethodId) (a : Array Value) : es dI sz (U.calling gg mk a) := by
  obtain ⟨h1, h2, ⟨o3, h3⟩, h4, h5⟩ := h
  have al := Vm.Alike.refl U.vm
  exact ⟨fun k hk => ⟨vk_R.same (u := U) rfl (h1 k hk).1, va_O.moved (u := U) (U := U.calling gg mk a) al (h1 k hk).2.1, va_OF.moved (u := U) (U := U.calling gg mk a) al (h1 k hk).2.2.1, va_OF.moved (u := U) (U := U.calling gg mk a) al (h1 k hk).2.2.2.1, va_T.moved (u := U) (U := U.calling gg mk a) al (h1 k hk).2.2.2.2⟩, va_Z.moved (u := U) (U := U.calling gg mk a) al h2, ⟨o3, va_Z.moved (u := U) (U := U.calling gg mk a) al h3⟩, va_Z.moved (u := U) (U := U.calling gg mk a) al h4, va_T.moved (u := U) (U := U.calling gg mk a) al h5⟩
def en (dC : Nat → ClassId) (dI : Nat → Nat → Nat) (dA : Nat → ClassId) (sz : Nat) (U : State) : Prop := va_K (dC, dI) vwCl (ty_ts dA) U ∧ (va_Nw nw_0 U ∧ va_Nw nw_1 U ∧ va_Nw nw_2 U ∧ va_Nw nw_3 U ∧ va_Nw nw_4 U ∧ va_Nw nw_5 U ∧ es dI sz U) ∧ va_AO RX1 U ∧ va_AO RX3 U ∧ va_AO RX2 U ∧ ex sz U
theorem en.go {dC : Nat → ClassId} {dI : Nat → Nat → Nat} {dA : Nat → ClassId} {sz : Nat} {s U : State} {H : Heap} {locs : List Loc} (h : en dC dI dA sz s) (hS : va_S (ty_A sz) s.heap H locs) (hU : U.heap = H) (hW : s.WarmedH U.vm) : en dC dI dA sz U := by
  obtain ⟨h1, ⟨n0, n1, n2, n3, n4, n5, ns⟩, a1, a2, a3, a4⟩ := h
  exact ⟨va_K.moved hW.alike h1, ⟨va_Nw.warmM hW n0, va_Nw.warmM hW n1, va_Nw.warmM hW n2, va_Nw.warmM hW n3, va_Nw.warmM hW n4, va_Nw.warmM hW n5, ns.go hS hU hW⟩, a1.moved hW.alike, a2.moved hW.alike, a3.moved hW.alike, a4.go hS hU hW⟩
theorem en.blind {dC : Nat → ClassId} {dI : Nat → Nat → Nat} {dA : Nat → ClassId} {sz : Nat} {U : State} (h : en dC dI dA sz U) (gg : JFrame) (mk : MethodId) (a : Array Value) : en dC dI dA sz (U.calling gg mk a) := by
  obtain ⟨h1, ⟨n0, n1, n2, n3, n4, n5, ns⟩, a1, a2, a3, a4⟩ := h
  exact ⟨va_K.moved (u := U) (U := U.calling gg mk a) (Vm.Alike.refl U.vm) h1, ⟨va_Nw.same rfl (u := U) rfl n0, va_Nw.same rfl (u := U) rfl n1, va_Nw.same rfl (u := U) rfl n2, va_Nw.same rfl (u := U) rfl n3, va_Nw.same rfl (u := U) rfl n4, va_Nw.same rfl (u := U) rfl n5, ns.blind gg mk a⟩, va_AO.moved (u := U) (U := U.calling gg mk a) (Vm.Alike.refl U.vm) a1, va_AO.moved (u := U) (U := U.calling gg mk a) (Vm.Alike.refl U.vm) a2, va_AO.moved (u := U) (U := U.calling gg mk a) (Vm.Alike.refl U.vm) a3, a4.blind gg mk a⟩
theorem in_X0 : ∀ w ∈ u_ws RX0 TX0 6, w ∈ AL := by
  intro w hw
  obtain ⟨k, hk, rfl⟩ := List.mem_map.mp hw
  have hk := List.mem_range.mp hk
  match k, hk with
  | 0, _ => exact wd_1_143
  | 1, _ => exact wd_1_145
  | 2, _ => exact wd_1_147
  | 3, _ => exact wd_1_149
  | 4, _ => exact wd_1_151
  | 5, _ => exact wd_1_153
theorem in_X1 : ∀ w ∈ u_ws RX1 TX1 6, w ∈ AL := by
  intro w hw
  obtain ⟨k, hk, rfl⟩ := List.mem_map.mp hw
  have hk := List.mem_range.mp hk
  match k, hk with
  | 0, _ => exact wd_1_224
  | 1, _ => exact wd_1_226
  | 2, _ => exact wd_1_228
  | 3, _ => exact wd_1_230
  | 4, _ => exact wd_1_232
  | 5, _ => exact wd_1_234
theorem in_X2 : ∀ w ∈ u_ws RX2 TX2 10, w ∈ AL := by
  intro w hw
  obtain ⟨k, hk, rfl⟩ := List.mem_map.mp hw
  have hk := List.mem_range.mp hk
  match k, hk with
  | 0, _ => exact wd_3_44
  | 1, _ => exact wd_3_46
  | 2, _ => exact wd_3_48
  | 3, _ => exact wd_3_50
  | 4, _ => exact wd_3_52
  | 5, _ => exact wd_3_54
  | 6, _ => exact wd_3_56
  | 7, _ => exact wd_3_58
  | 8, _ => exact wd_3_60
  | 9, _ => exact wd_3_62
theorem in_X3 : ∀ w ∈ u_ws RX3 TX3 8, w ∈ AL := by
  intro w hw
  obtain ⟨k, hk, rfl⟩ := List.mem_map.mp hw
  have hk := List.mem_range.mp hk
  match k, hk with
  | 0, _ => exact wd_2_24
  | 1, _ => exact wd_2_26
  | 2, _ => exact wd_2_28
  | 3, _ => exact wd_2_30
  | 4, _ => exact wd_2_32
  | 5, _ => exact wd_2_34
  | 6, _ => exact wd_2_36
  | 7, _ => exact wd_2_38
theorem in_X4 : ∀ w ∈ u_ws RX4 TX4 8, w ∈ AL := by
  intro w hw
  obtain ⟨k, hk, rfl⟩ := List.mem_map.mp hw
  have hk := List.mem_range.mp hk
  match k, hk with
  | 0, _ => exact wd_1_53
  | 1, _ => exact wd_1_55
  | 2, _ => exact wd_1_57
  | 3, _ => exact wd_1_59
  | 4, _ => exact wd_1_61
  | 5, _ => exact wd_1_63
  | 6, _ => exact wd_1_65
  | 7, _ => exact wd_1_67
theorem in_X5 : ∀ w ∈ u_ws RX5 TX5 7, w ∈ AL := by
  intro w hw
  obtain ⟨k, hk, rfl⟩ := List.mem_map.mp hw
  have hk := List.mem_range.mp hk
  match k, hk with
  | 0, _ => exact wd_1_114
  | 1, _ => exact wd_1_116
  | 2, _ => exact wd_1_118
  | 3, _ => exact wd_1_120
  | 4, _ => exact wd_1_122
  | 5, _ => exact wd_1_124
  | 6, _ => exact wd_1_126
theorem in_X6 : ∀ w ∈ u_ws RX6 TX6 5, w ∈ AL := by
  intro w hw
  obtain ⟨k, hk, rfl⟩ := List.mem_map.mp hw
  have hk := List.mem_range.mp hk
  match k, hk with
  | 0, _ => exact wd_1_89
  | 1, _ => exact wd_1_91
  | 2, _ => exact wd_1_93
  | 3, _ => exact wd_1_95
  | 4, _ => exact wd_1_97
theorem in_X7 : ∀ w ∈ u_ws RX7 TX7 4, w ∈ AL := by
  intro w hw
  obtain ⟨k, hk, rfl⟩ := List.mem_map.mp hw
  have hk := List.mem_range.mp hk
  match k, hk with
  | 0, _ => exact wd_3_94
  | 1, _ => exact wd_3_96
  | 2, _ => exact wd_3_98
  | 3, _ => exact wd_3_100
theorem in_X8 : ∀ w ∈ u_ws RX8 TX8 13, w ∈ AL := by
  intro w hw
  obtain ⟨k, hk, rfl⟩ := List.mem_map.mp hw
  have hk := List.mem_range.mp hk
  match k, hk with
  | 0, _ => exact wd_1_170
  | 1, _ => exact wd_1_172
  | 2, _ => exact wd_1_174
  | 3, _ => exact wd_1_176
  | 4, _ => exact wd_1_178
  | 5, _ => exact wd_1_180
  | 6, _ => exact wd_1_182
  | 7, _ => exact wd_1_184
  | 8, _ => exact wd_1_186
  | 9, _ => exact wd_1_188
  | 10, _ => exact wd_1_190
  | 11, _ => exact wd_1_192
  | 12, _ => exact wd_1_194
theorem in_X9 : ∀ w ∈ u_ws RX9 TX9 47, w ∈ AL := by
  intro w hw
  obtain ⟨k, hk, rfl⟩ := List.mem_map.mp hw
  have hk := List.mem_range.mp hk
  match k, hk with
  | 0, _ => exact wd_4_177
  | 1, _ => exact wd_4_179
  | 2, _ => exact wd_4_181
  | 3, _ => exact wd_4_183
  | 4, _ => exact wd_4_185
  | 5, _ => exact wd_4_187
  | 6, _ => exact wd_4_189
  | 7, _ => exact wd_4_191
  | 8, _ => exact wd_4_193
  | 9, _ => exact wd_4_195
  | 10, _ => exact wd_4_197
  | 11, _ => exact wd_4_199
  | 12, _ => exact wd_4_201
  | 13, _ => exact wd_4_203
  | 14, _ => exact wd_4_205
  | 15, _ => exact wd_4_207
  | 16, _ => exact wd_4_209
  | 17, _ => exact wd_4_211
  | 18, _ => exact wd_4_213
  | 19, _ => exact wd_4_215
  | 20, _ => exact wd_4_217
  | 21, _ => exact wd_4_219
  | 22, _ => exact wd_4_221
  | 23, _ => exact wd_4_223
  | 24, _ => exact wd_4_225
  | 25, _ => exact wd_4_227
  | 26, _ => exact wd_4_229
  | 27, _ => exact wd_4_231
  | 28, _ => exact wd_4_233
  | 29, _ => exact wd_4_235
  | 30, _ => exact wd_4_237
  | 31, _ => exact wd_4_239
  | 32, _ => exact wd_5_1
  | 33, _ => exact wd_5_3
  | 34, _ => exact wd_5_5
  | 35, _ => exact wd_5_7
  | 36, _ => exact wd_5_9
  | 37, _ => exact wd_5_11
  | 38, _ => exact wd_5_13
  | 39, _ => exact wd_5_15
  | 40, _ => exact wd_5_17
  | 41, _ => exact wd_5_19
  | 42, _ => exact wd_5_21
  | 43, _ => exact wd_5_23
  | 44, _ => exact wd_5_25
  | 45, _ => exact wd_5_27
  | 46, _ => exact wd_5_29
  | k + 47, h => exact absurd h (by omega)
theorem ty_nb {x : Int32} (h : x.toInt = 0 ∨ x.toInt = 1) : narrow .boolean (.int x) = .int x ∧ fits .boolean (.int x) = true ∧ vp_nar .boolean x = x := by
  rcases h with h | h
  · obtain rfl : x = 0 := ty_eq32.mpr h
    exact ⟨rfl, rfl, rfl⟩
  · obtain rfl : x = 1 := ty_eq32.mpr h
    exact ⟨rfl, rfl, rfl⟩
theorem ty_nq {r : Option Nat} {n : String} : narrow (.object n) (va_rf r) = va_rf r ∧ fits (.object n) (va_rf r) = true := by cases r <;> exact ⟨rfl, rfl⟩
theorem dpt_m {t : ty_N} {k j : Nat} : dpt t (100 + k) j = (t.1 == 30 || t.1 == 100 + k) := by rw [show 100 + k = k + 100 by omega]; rfl
section ROWS
variable {p : Program} {l : Launch} {e : Env} {R : Room} {s : State} {m : MethodId} {args : Array Value} {below : List Frame} {meth : Method} {c : Code} {H : Heap} {locs : List Loc} {cells slots : Nat} {Q : State → Prop}
variable {cc : ByteArray} {pc : Nat} {ls : Array Slot} {rest : List Value} {dC : Nat → ClassId} {dI : Nat → Nat → Nat} {dA : Nat → ClassId} {a : Nat} {H0 : Heap} {sz : Nat} {X : va_W} {Γ : ty_G} {g : gh}
theorem get_X0_0 (hx : p.tables.exec = Jvm.exec) (hb : c.code = cc) (hA : ∀ w ∈ AL, w.before args s = true) {own : String} {index : Nat} (hown : s.vm.findClass own = some m.cls) (hE : en dC dI dA sz s) (hG : ty_ok (dC, dI) vwCl Γ (TP dA Γ g) sz X H) (ha : (Γ a).1 = 9) (hl : Cond.fieldLink own index "WeekBank$FeeRounds" "limits" "[I" ∈ AL) (hdg : decode cc pc = .ok (.getfield index, 3)) (kk : ∀ b : Nat, (Γ b).1 = 23 → W p l e R s m args below meth c H locs cells slots Q (F0 m (pc + 3) ls (.ref b :: rest))) : W p l e R s m args below meth c H locs cells slots Q (F0 m pc ls (.ref a :: rest)) := by
  refine ty_get (Tb := TX0) (C := RX0) (N := 6) (ci := 0) (F := Ff Γ g) hx hb hA in_X0 hown hE.1 hG (by rw [ha]; decide) (fun x h => by rw [TP_9 ha] at h; exact h) rfl 0 (by decide) (hA _ hl) (fun _ h => h) hdg (fun v hv => ?_)
  obtain ⟨b, rfl, h2⟩ := hv; exact kk b h2
theorem get_X0_1 (hx : p.tables.exec = Jvm.exec) (hb : c.code = cc) (hA : ∀ w ∈ AL, w.before args s = true) {own : String} {index : Nat} (hown : s.vm.findClass own = some m.cls) (hE : en dC dI dA sz s) (hG : ty_ok (dC, dI) vwCl Γ (TP dA Γ g) sz X H) (ha : (Γ a).1 = 9) (hl : Cond.fieldLink own index "WeekBank$FeeRounds" "owned" "[I" ∈ AL) (hdg : decode cc pc = .ok (.getfield index, 3)) (kk : ∀ b : Nat, (Γ b).1 = 23 → W p l e R s m args below meth c H locs cells slots Q (F0 m (pc + 3) ls (.ref b :: rest))) : W p l e R s m args below meth c H locs cells slots Q (F0 m pc ls (.ref a :: rest)) := by
  refine ty_get (Tb := TX0) (C := RX0) (N := 6) (ci := 0) (F := Ff Γ g) hx hb hA in_X0 hown hE.1 hG (by rw [ha]; decide) (fun x h => by rw [TP_9 ha] at h; exact h) rfl 1 (by decide) (hA _ hl) (fun _ h => h) hdg (fun v hv => ?_)
  obtain ⟨b, rfl, h2⟩ := hv; exact kk b h2
theorem get_X0_2 (hx : p.tables.exec = Jvm.exec) (hb : c.code = cc) (hA : ∀ w ∈ AL, w.before args s = true) {own : String} {index : Nat} (hown : s.vm.findClass own = some m.cls) (hE : en dC dI dA sz s) (hG : ty_ok (dC, dI) vwCl Γ (TP dA Γ g) sz X H) (ha : (Γ a).1 = 9) (hl : Cond.fieldLink own index "WeekBank$FeeRounds" "left" "[Z" ∈ AL) (hdg : decode cc pc = .ok (.getfield index, 3)) (kk : ∀ b : Nat, (Γ b).1 = 24 → W p l e R s m args below meth c H locs cells slots Q (F0 m (pc + 3) ls (.ref b :: rest))) : W p l e R s m args below meth c H locs cells slots Q (F0 m pc ls (.ref a :: rest)) := by
  refine ty_get (Tb := TX0) (C := RX0) (N := 6) (ci := 0) (F := Ff Γ g) hx hb hA in_X0 hown hE.1 hG (by rw [ha]; decide) (fun x h => by rw [TP_9 ha] at h; exact h) rfl 2 (by decide) (hA _ hl) (fun _ h => h) hdg (fun v hv => ?_)
  obtain ⟨b, rfl, h2⟩ := hv; exact kk b h2
theorem get_X0_3 (hx : p.tables.exec = Jvm.exec) (hb : c.code = cc) (hA : ∀ w ∈ AL, w.before args s = true) {own : String} {index : Nat} (hown : s.vm.findClass own = some m.cls) (hE : en dC dI dA sz s) (hG : ty_ok (dC, dI) vwCl Γ (TP dA Γ g) sz X H) (ha : (Γ a).1 = 9) (hl : Cond.fieldLink own index "WeekBank$FeeRounds" "size" "I" ∈ AL) (hdg : decode cc pc = .ok (.getfield index, 3)) (kk : ∀ x : Int32, x.toInt = g 30 0 → W p l e R s m args below meth c H locs cells slots Q (F0 m (pc + 3) ls (.int x :: rest))) : W p l e R s m args below meth c H locs cells slots Q (F0 m pc ls (.ref a :: rest)) := by
  refine ty_get (Tb := TX0) (C := RX0) (N := 6) (ci := 0) (F := Ff Γ g) hx hb hA in_X0 hown hE.1 hG (by rw [ha]; decide) (fun x h => by rw [TP_9 ha] at h; exact h) rfl 3 (by decide) (hA _ hl) (fun _ h => h) hdg (fun v hv => ?_)
  obtain ⟨x, rfl, h2⟩ := hv; exact kk x h2
theorem put_X0_3 (hx : p.tables.exec = Jvm.exec) (hb : c.code = cc) (hA : ∀ w ∈ AL, w.before args s = true) {own : String} {index : Nat} (hown : s.vm.findClass own = some m.cls) (hE : en dC dI dA sz s) (hG : ty_ok (dC, dI) vwCl Γ (TP dA Γ g) sz X H) (hS0 : va_S (ty_A sz) H0 H locs) (hU : Un Γ) (ha : (Γ a).1 = 9) (hl : Cond.fieldLink own index "WeekBank$FeeRounds" "size" "I" ∈ AL) {x : Int32} (hdg : decode cc pc = .ok (.putfield index, 3)) (kk : ∀ (H1 : Heap) (locs1 : List Loc), ty_ok (dC, dI) vwCl Γ (TP dA Γ (gs g 30 0 x.toInt)) sz X H1 → va_S (ty_A sz) H0 H1 locs1 → W p l e R s m args below meth c H1 locs1 cells slots Q (F0 m (pc + 3) ls rest)) : W p l e R s m args below meth c H locs cells slots Q (F0 m pc ls (.int x :: .ref a :: rest)) :=
  ty_putG (T' := TP dA Γ (gs g 30 0 x.toInt)) (Tb := TX0) (C := RX0) (N := 6) (ci := 0) (F := Ff Γ g) (F' := Ff Γ (gs g 30 0 x.toInt)) hx hb hA in_X0 tyX0 tyX0_ok nmX0 hown hE.1 hG hS0 (by rw [ha]; decide) (fun x h => by rw [TP_9 ha] at h; exact h) (fun x h => by rw [TP_9 ha]; exact h) rfl 3 (by decide) (hA _ hl) (fun _ h => h) rfl (ty := .int) (tyX0_ok 3 (by decide)) (rfl) (rfl) (fun j hj hne v hv => match j, hj, hne, v, hv with
      | 0, _, _, v, hv => hv
      | 1, _, _, v, hv => hv
      | 2, _, _, v, hv => hv
      | 3, _, hne, v, hv => absurd rfl hne
      | 4, _, _, v, hv => hv
      | 5, _, _, v, hv => hv) ⟨x, rfl, (gs_self _ _ _ _).symm⟩ (fun b y hb h0 h => TP_gs (by show ((Γ b).1 == 9) = false; exact beq_eq_false_iff_ne.mpr (hU.one ha rfl hb)) h) hdg kk
theorem get_X0_4 (hx : p.tables.exec = Jvm.exec) (hb : c.code = cc) (hA : ∀ w ∈ AL, w.before args s = true) {own : String} {index : Nat} (hown : s.vm.findClass own = some m.cls) (hE : en dC dI dA sz s) (hG : ty_ok (dC, dI) vwCl Γ (TP dA Γ g) sz X H) (ha : (Γ a).1 = 9) (hl : Cond.fieldLink own index "WeekBank$FeeRounds" "fee" "I" ∈ AL) (hdg : decode cc pc = .ok (.getfield index, 3)) (kk : ∀ x : Int32, x.toInt = g 31 0 → W p l e R s m args below meth c H locs cells slots Q (F0 m (pc + 3) ls (.int x :: rest))) : W p l e R s m args below meth c H locs cells slots Q (F0 m pc ls (.ref a :: rest)) := by
  refine ty_get (Tb := TX0) (C := RX0) (N := 6) (ci := 0) (F := Ff Γ g) hx hb hA in_X0 hown hE.1 hG (by rw [ha]; decide) (fun x h => by rw [TP_9 ha] at h; exact h) rfl 4 (by decide) (hA _ hl) (fun _ h => h) hdg (fun v hv => ?_)
  obtain ⟨x, rfl, h2⟩ := hv; exact kk x h2
theorem put_X0_4 (hx : p.tables.exec = Jvm.exec) (hb : c.code = cc) (hA : ∀ w ∈ AL, w.before args s = true) {own : String} {index : Nat} (hown : s.vm.findClass own = some m.cls) (hE : en dC dI dA sz s) (hG : ty_ok (dC, dI) vwCl Γ (TP dA Γ g) sz X H) (hS0 : va_S (ty_A sz) H0 H locs) (hU : Un Γ) (ha : (Γ a).1 = 9) (hl : Cond.fieldLink own index "WeekBank$FeeRounds" "fee" "I" ∈ AL) {x : Int32} (hdg : decode cc pc = .ok (.putfield index, 3)) (kk : ∀ (H1 : Heap) (locs1 : List Loc), ty_ok (dC, dI) vwCl Γ (TP dA Γ (gs g 31 0 x.toInt)) sz X H1 → va_S (ty_A sz) H0 H1 locs1 → W p l e R s m args below meth c H1 locs1 cells slots Q (F0 m (pc + 3) ls rest)) : W p l e R s m args below meth c H locs cells slots Q (F0 m pc ls (.int x :: .ref a :: rest)) :=
  ty_putG (T' := TP dA Γ (gs g 31 0 x.toInt)) (Tb := TX0) (C := RX0) (N := 6) (ci := 0) (F := Ff Γ g) (F' := Ff Γ (gs g 31 0 x.toInt)) hx hb hA in_X0 tyX0 tyX0_ok nmX0 hown hE.1 hG hS0 (by rw [ha]; decide) (fun x h => by rw [TP_9 ha] at h; exact h) (fun x h => by rw [TP_9 ha]; exact h) rfl 4 (by decide) (hA _ hl) (fun _ h => h) rfl (ty := .int) (tyX0_ok 4 (by decide)) (rfl) (rfl) (fun j hj hne v hv => match j, hj, hne, v, hv with
      | 0, _, _, v, hv => hv
      | 1, _, _, v, hv => hv
      | 2, _, _, v, hv => hv
      | 3, _, _, v, hv => hv
      | 4, _, hne, v, hv => absurd rfl hne
      | 5, _, _, v, hv => hv) ⟨x, rfl, (gs_self _ _ _ _).symm⟩ (fun b y hb h0 h => TP_gs (by show ((Γ b).1 == 9) = false; exact beq_eq_false_iff_ne.mpr (hU.one ha rfl hb)) h) hdg kk
theorem get_X0_5 (hx : p.tables.exec = Jvm.exec) (hb : c.code = cc) (hA : ∀ w ∈ AL, w.before args s = true) {own : String} {index : Nat} (hown : s.vm.findClass own = some m.cls) (hE : en dC dI dA sz s) (hG : ty_ok (dC, dI) vwCl Γ (TP dA Γ g) sz X H) (ha : (Γ a).1 = 9) (hl : Cond.fieldLink own index "WeekBank$FeeRounds" "roundsLeft" "I" ∈ AL) (hdg : decode cc pc = .ok (.getfield index, 3)) (kk : ∀ x : Int32, x.toInt = g 32 0 → W p l e R s m args below meth c H locs cells slots Q (F0 m (pc + 3) ls (.int x :: rest))) : W p l e R s m args below meth c H locs cells slots Q (F0 m pc ls (.ref a :: rest)) := by
  refine ty_get (Tb := TX0) (C := RX0) (N := 6) (ci := 0) (F := Ff Γ g) hx hb hA in_X0 hown hE.1 hG (by rw [ha]; decide) (fun x h => by rw [TP_9 ha] at h; exact h) rfl 5 (by decide) (hA _ hl) (fun _ h => h) hdg (fun v hv => ?_)
  obtain ⟨x, rfl, h2⟩ := hv; exact kk x h2
theorem put_X0_5 (hx : p.tables.exec = Jvm.exec) (hb : c.code = cc) (hA : ∀ w ∈ AL, w.before args s = true) {own : String} {index : Nat} (hown : s.vm.findClass own = some m.cls) (hE : en dC dI dA sz s) (hG : ty_ok (dC, dI) vwCl Γ (TP dA Γ g) sz X H) (hS0 : va_S (ty_A sz) H0 H locs) (hU : Un Γ) (ha : (Γ a).1 = 9) (hl : Cond.fieldLink own index "WeekBank$FeeRounds" "roundsLeft" "I" ∈ AL) {x : Int32} (hdg : decode cc pc = .ok (.putfield index, 3)) (kk : ∀ (H1 : Heap) (locs1 : List Loc), ty_ok (dC, dI) vwCl Γ (TP dA Γ (gs g 32 0 x.toInt)) sz X H1 → va_S (ty_A sz) H0 H1 locs1 → W p l e R s m args below meth c H1 locs1 cells slots Q (F0 m (pc + 3) ls rest)) : W p l e R s m args below meth c H locs cells slots Q (F0 m pc ls (.int x :: .ref a :: rest)) :=
  ty_putG (T' := TP dA Γ (gs g 32 0 x.toInt)) (Tb := TX0) (C := RX0) (N := 6) (ci := 0) (F := Ff Γ g) (F' := Ff Γ (gs g 32 0 x.toInt)) hx hb hA in_X0 tyX0 tyX0_ok nmX0 hown hE.1 hG hS0 (by rw [ha]; decide) (fun x h => by rw [TP_9 ha] at h; exact h) (fun x h => by rw [TP_9 ha]; exact h) rfl 5 (by decide) (hA _ hl) (fun _ h => h) rfl (ty := .int) (tyX0_ok 5 (by decide)) (rfl) (rfl) (fun j hj hne v hv => match j, hj, hne, v, hv with
      | 0, _, _, v, hv => hv
      | 1, _, _, v, hv => hv
      | 2, _, _, v, hv => hv
      | 3, _, _, v, hv => hv
      | 4, _, _, v, hv => hv
      | 5, _, hne, v, hv => absurd rfl hne) ⟨x, rfl, (gs_self _ _ _ _).symm⟩ (fun b y hb h0 h => TP_gs (by show ((Γ b).1 == 9) = false; exact beq_eq_false_iff_ne.mpr (hU.one ha rfl hb)) h) hdg kk
theorem get_X1_0 {i : Nat} (hx : p.tables.exec = Jvm.exec) (hb : c.code = cc) (hA : ∀ w ∈ AL, w.before args s = true) {own : String} {index : Nat} (hown : s.vm.findClass own = some m.cls) (hE : en dC dI dA sz s) (hG : ty_ok (dC, dI) vwCl Γ (TP dA Γ g) sz X H) (ha : Γ a = (2, i)) (hl : Cond.fieldLink own index "WeekBank$Flat" "number" "I" ∈ AL) (hdg : decode cc pc = .ok (.getfield index, 3)) (kk : ∀ x : Int32, x.toInt = (i : Int) → W p l e R s m args below meth c H locs cells slots Q (F0 m (pc + 3) ls (.int x :: rest))) : W p l e R s m args below meth c H locs cells slots Q (F0 m pc ls (.ref a :: rest)) := by
  refine ty_get (Tb := TX1) (C := RX1) (N := 6) (ci := 1) (F := F1 Γ g i) hx hb hA in_X1 hown hE.1 hG (by rw [(by rw [ha] : (Γ a).1 = 2)]; decide) (fun x h => by rw [TP_2 (by rw [ha] : (Γ a).1 = 2)] at h; rw [show (Γ a).2 = i by rw [ha]] at h; exact h) rfl 0 (by decide) (hA _ hl) (fun _ h => h) hdg (fun v hv => ?_)
  obtain ⟨x, rfl, h2⟩ := hv; exact kk x h2
theorem get_X1_1 {i : Nat} (hx : p.tables.exec = Jvm.exec) (hb : c.code = cc) (hA : ∀ w ∈ AL, w.before args s = true) {own : String} {index : Nat} (hown : s.vm.findClass own = some m.cls) (hE : en dC dI dA sz s) (hG : ty_ok (dC, dI) vwCl Γ (TP dA Γ g) sz X H) (ha : Γ a = (2, i)) (hl : Cond.fieldLink own index "WeekBank$Flat" "town" "I" ∈ AL) (hdg : decode cc pc = .ok (.getfield index, 3)) (kk : ∀ x : Int32, x.toInt = g 41 i → W p l e R s m args below meth c H locs cells slots Q (F0 m (pc + 3) ls (.int x :: rest))) : W p l e R s m args below meth c H locs cells slots Q (F0 m pc ls (.ref a :: rest)) := by
  refine ty_get (Tb := TX1) (C := RX1) (N := 6) (ci := 1) (F := F1 Γ g i) hx hb hA in_X1 hown hE.1 hG (by rw [(by rw [ha] : (Γ a).1 = 2)]; decide) (fun x h => by rw [TP_2 (by rw [ha] : (Γ a).1 = 2)] at h; rw [show (Γ a).2 = i by rw [ha]] at h; exact h) rfl 1 (by decide) (hA _ hl) (fun _ h => h) hdg (fun v hv => ?_)
  obtain ⟨x, rfl, h2⟩ := hv; exact kk x h2
theorem get_X1_2 {i : Nat} (hx : p.tables.exec = Jvm.exec) (hb : c.code = cc) (hA : ∀ w ∈ AL, w.before args s = true) {own : String} {index : Nat} (hown : s.vm.findClass own = some m.cls) (hE : en dC dI dA sz s) (hG : ty_ok (dC, dI) vwCl Γ (TP dA Γ g) sz X H) (ha : Γ a = (2, i)) (hl : Cond.fieldLink own index "WeekBank$Flat" "size" "I" ∈ AL) (hdg : decode cc pc = .ok (.getfield index, 3)) (kk : ∀ x : Int32, x.toInt = g 42 i → W p l e R s m args below meth c H locs cells slots Q (F0 m (pc + 3) ls (.int x :: rest))) : W p l e R s m args below meth c H locs cells slots Q (F0 m pc ls (.ref a :: rest)) := by
  refine ty_get (Tb := TX1) (C := RX1) (N := 6) (ci := 1) (F := F1 Γ g i) hx hb hA in_X1 hown hE.1 hG (by rw [(by rw [ha] : (Γ a).1 = 2)]; decide) (fun x h => by rw [TP_2 (by rw [ha] : (Γ a).1 = 2)] at h; rw [show (Γ a).2 = i by rw [ha]] at h; exact h) rfl 2 (by decide) (hA _ hl) (fun _ h => h) hdg (fun v hv => ?_)
  obtain ⟨x, rfl, h2⟩ := hv; exact kk x h2
theorem get_X1_3 {i : Nat} (hx : p.tables.exec = Jvm.exec) (hb : c.code = cc) (hA : ∀ w ∈ AL, w.before args s = true) {own : String} {index : Nat} (hown : s.vm.findClass own = some m.cls) (hE : en dC dI dA sz s) (hG : ty_ok (dC, dI) vwCl Γ (TP dA Γ g) sz X H) (ha : Γ a = (2, i)) (hl : Cond.fieldLink own index "WeekBank$Flat" "owners" "[LWeekBank$Owner;" ∈ AL) (hdg : decode cc pc = .ok (.getfield index, 3)) (kk : ∀ b : Nat, Γ b = (13, i) → W p l e R s m args below meth c H locs cells slots Q (F0 m (pc + 3) ls (.ref b :: rest))) : W p l e R s m args below meth c H locs cells slots Q (F0 m pc ls (.ref a :: rest)) := by
  refine ty_get (Tb := TX1) (C := RX1) (N := 6) (ci := 1) (F := F1 Γ g i) hx hb hA in_X1 hown hE.1 hG (by rw [(by rw [ha] : (Γ a).1 = 2)]; decide) (fun x h => by rw [TP_2 (by rw [ha] : (Γ a).1 = 2)] at h; rw [show (Γ a).2 = i by rw [ha]] at h; exact h) rfl 3 (by decide) (hA _ hl) (fun _ h => h) hdg (fun v hv => ?_)
  obtain ⟨b, rfl, h2⟩ := hv; exact kk b h2
theorem get_X1_4 {i : Nat} (hx : p.tables.exec = Jvm.exec) (hb : c.code = cc) (hA : ∀ w ∈ AL, w.before args s = true) {own : String} {index : Nat} (hown : s.vm.findClass own = some m.cls) (hE : en dC dI dA sz s) (hG : ty_ok (dC, dI) vwCl Γ (TP dA Γ g) sz X H) (ha : Γ a = (2, i)) (hl : Cond.fieldLink own index "WeekBank$Flat" "shut" "[Z" ∈ AL) (hdg : decode cc pc = .ok (.getfield index, 3)) (kk : ∀ b : Nat, Γ b = (14, i) → W p l e R s m args below meth c H locs cells slots Q (F0 m (pc + 3) ls (.ref b :: rest))) : W p l e R s m args below meth c H locs cells slots Q (F0 m pc ls (.ref a :: rest)) := by
  refine ty_get (Tb := TX1) (C := RX1) (N := 6) (ci := 1) (F := F1 Γ g i) hx hb hA in_X1 hown hE.1 hG (by rw [(by rw [ha] : (Γ a).1 = 2)]; decide) (fun x h => by rw [TP_2 (by rw [ha] : (Γ a).1 = 2)] at h; rw [show (Γ a).2 = i by rw [ha]] at h; exact h) rfl 4 (by decide) (hA _ hl) (fun _ h => h) hdg (fun v hv => ?_)
  obtain ⟨b, rfl, h2⟩ := hv; exact kk b h2
theorem get_X1_5 {i : Nat} (hx : p.tables.exec = Jvm.exec) (hb : c.code = cc) (hA : ∀ w ∈ AL, w.before args s = true) {own : String} {index : Nat} (hown : s.vm.findClass own = some m.cls) (hE : en dC dI dA sz s) (hG : ty_ok (dC, dI) vwCl Γ (TP dA Γ g) sz X H) (ha : Γ a = (2, i)) (hl : Cond.fieldLink own index "WeekBank$Flat" "gifts" "[LWeekBank$Gift;" ∈ AL) (hdg : decode cc pc = .ok (.getfield index, 3)) (kk : ∀ b : Nat, Γ b = (15, i) → W p l e R s m args below meth c H locs cells slots Q (F0 m (pc + 3) ls (.ref b :: rest))) : W p l e R s m args below meth c H locs cells slots Q (F0 m pc ls (.ref a :: rest)) := by
  refine ty_get (Tb := TX1) (C := RX1) (N := 6) (ci := 1) (F := F1 Γ g i) hx hb hA in_X1 hown hE.1 hG (by rw [(by rw [ha] : (Γ a).1 = 2)]; decide) (fun x h => by rw [TP_2 (by rw [ha] : (Γ a).1 = 2)] at h; rw [show (Γ a).2 = i by rw [ha]] at h; exact h) rfl 5 (by decide) (hA _ hl) (fun _ h => h) hdg (fun v hv => ?_)
  obtain ⟨b, rfl, h2⟩ := hv; exact kk b h2
theorem get_X2_0 {i : Nat} (hx : p.tables.exec = Jvm.exec) (hb : c.code = cc) (hA : ∀ w ∈ AL, w.before args s = true) {own : String} {index : Nat} (hown : s.vm.findClass own = some m.cls) (hE : en dC dI dA sz s) (hG : ty_ok (dC, dI) vwCl Γ (TP dA Γ g) sz X H) (ha : Γ a = (4, i)) (hl : Cond.fieldLink own index "WeekBank$Gift" "number" "I" ∈ AL) (hdg : decode cc pc = .ok (.getfield index, 3)) (kk : ∀ x : Int32, x.toInt = (i : Int) → W p l e R s m args below meth c H locs cells slots Q (F0 m (pc + 3) ls (.int x :: rest))) : W p l e R s m args below meth c H locs cells slots Q (F0 m pc ls (.ref a :: rest)) := by
  refine ty_get (Tb := TX2) (C := RX2) (N := 10) (ci := 2) (F := F2 Γ g i) hx hb hA in_X2 hown hE.1 hG (by rw [(by rw [ha] : (Γ a).1 = 4)]; decide) (fun x h => by rw [TP_4 (by rw [ha] : (Γ a).1 = 4)] at h; rw [show (Γ a).2 = i by rw [ha]] at h; exact h) rfl 0 (by decide) (hA _ hl) (fun _ h => h) hdg (fun v hv => ?_)
  obtain ⟨x, rfl, h2⟩ := hv; exact kk x h2
theorem get_X2_1 {i : Nat} (hx : p.tables.exec = Jvm.exec) (hb : c.code = cc) (hA : ∀ w ∈ AL, w.before args s = true) {own : String} {index : Nat} (hown : s.vm.findClass own = some m.cls) (hE : en dC dI dA sz s) (hG : ty_ok (dC, dI) vwCl Γ (TP dA Γ g) sz X H) (ha : Γ a = (4, i)) (hl : Cond.fieldLink own index "WeekBank$Gift" "owner" "LWeekBank$Owner;" ∈ AL) (hdg : decode cc pc = .ok (.getfield index, 3)) (kk : ∀ b : Nat, Γ b = (3, (g 60 i).toNat) → 0 ≤ g 60 i → W p l e R s m args below meth c H locs cells slots Q (F0 m (pc + 3) ls (.ref b :: rest))) : W p l e R s m args below meth c H locs cells slots Q (F0 m pc ls (.ref a :: rest)) := by
  refine ty_get (Tb := TX2) (C := RX2) (N := 10) (ci := 2) (F := F2 Γ g i) hx hb hA in_X2 hown hE.1 hG (by rw [(by rw [ha] : (Γ a).1 = 4)]; decide) (fun x h => by rw [TP_4 (by rw [ha] : (Γ a).1 = 4)] at h; rw [show (Γ a).2 = i by rw [ha]] at h; exact h) rfl 1 (by decide) (hA _ hl) (fun _ h => h) hdg (fun v hv => ?_)
  obtain ⟨b, rfl, h2, h3⟩ := hv; exact kk b h2 h3
theorem get_X2_2 {i : Nat} (hx : p.tables.exec = Jvm.exec) (hb : c.code = cc) (hA : ∀ w ∈ AL, w.before args s = true) {own : String} {index : Nat} (hown : s.vm.findClass own = some m.cls) (hE : en dC dI dA sz s) (hG : ty_ok (dC, dI) vwCl Γ (TP dA Γ g) sz X H) (ha : Γ a = (4, i)) (hl : Cond.fieldLink own index "WeekBank$Gift" "flat" "LWeekBank$Flat;" ∈ AL) (hdg : decode cc pc = .ok (.getfield index, 3)) (kk : ∀ b : Nat, Γ b = (2, (g 61 i).toNat) → 0 ≤ g 61 i → W p l e R s m args below meth c H locs cells slots Q (F0 m (pc + 3) ls (.ref b :: rest))) : W p l e R s m args below meth c H locs cells slots Q (F0 m pc ls (.ref a :: rest)) := by
  refine ty_get (Tb := TX2) (C := RX2) (N := 10) (ci := 2) (F := F2 Γ g i) hx hb hA in_X2 hown hE.1 hG (by rw [(by rw [ha] : (Γ a).1 = 4)]; decide) (fun x h => by rw [TP_4 (by rw [ha] : (Γ a).1 = 4)] at h; rw [show (Γ a).2 = i by rw [ha]] at h; exact h) rfl 2 (by decide) (hA _ hl) (fun _ h => h) hdg (fun v hv => ?_)
  obtain ⟨b, rfl, h2, h3⟩ := hv; exact kk b h2 h3
theorem get_X2_3 {i : Nat} (hx : p.tables.exec = Jvm.exec) (hb : c.code = cc) (hA : ∀ w ∈ AL, w.before args s = true) {own : String} {index : Nat} (hown : s.vm.findClass own = some m.cls) (hE : en dC dI dA sz s) (hG : ty_ok (dC, dI) vwCl Γ (TP dA Γ g) sz X H) (ha : Γ a = (4, i)) (hl : Cond.fieldLink own index "WeekBank$Gift" "week" "I" ∈ AL) (hdg : decode cc pc = .ok (.getfield index, 3)) (kk : ∀ x : Int32, x.toInt = g 62 i → W p l e R s m args below meth c H locs cells slots Q (F0 m (pc + 3) ls (.int x :: rest))) : W p l e R s m args below meth c H locs cells slots Q (F0 m pc ls (.ref a :: rest)) := by
  refine ty_get (Tb := TX2) (C := RX2) (N := 10) (ci := 2) (F := F2 Γ g i) hx hb hA in_X2 hown hE.1 hG (by rw [(by rw [ha] : (Γ a).1 = 4)]; decide) (fun x h => by rw [TP_4 (by rw [ha] : (Γ a).1 = 4)] at h; rw [show (Γ a).2 = i by rw [ha]] at h; exact h) rfl 3 (by decide) (hA _ hl) (fun _ h => h) hdg (fun v hv => ?_)
  obtain ⟨x, rfl, h2⟩ := hv; exact kk x h2
theorem get_X2_4 {i : Nat} (hx : p.tables.exec = Jvm.exec) (hb : c.code = cc) (hA : ∀ w ∈ AL, w.before args s = true) {own : String} {index : Nat} (hown : s.vm.findClass own = some m.cls) (hE : en dC dI dA sz s) (hG : ty_ok (dC, dI) vwCl Γ (TP dA Γ g) sz X H) (ha : Γ a = (4, i)) (hl : Cond.fieldLink own index "WeekBank$Gift" "year" "I" ∈ AL) (hdg : decode cc pc = .ok (.getfield index, 3)) (kk : ∀ x : Int32, x.toInt = g 63 i → W p l e R s m args below meth c H locs cells slots Q (F0 m (pc + 3) ls (.int x :: rest))) : W p l e R s m args below meth c H locs cells slots Q (F0 m pc ls (.ref a :: rest)) := by
  refine ty_get (Tb := TX2) (C := RX2) (N := 10) (ci := 2) (F := F2 Γ g i) hx hb hA in_X2 hown hE.1 hG (by rw [(by rw [ha] : (Γ a).1 = 4)]; decide) (fun x h => by rw [TP_4 (by rw [ha] : (Γ a).1 = 4)] at h; rw [show (Γ a).2 = i by rw [ha]] at h; exact h) rfl 4 (by decide) (hA _ hl) (fun _ h => h) hdg (fun v hv => ?_)
  obtain ⟨x, rfl, h2⟩ := hv; exact kk x h2
theorem put_X2_4 {i : Nat} (hx : p.tables.exec = Jvm.exec) (hb : c.code = cc) (hA : ∀ w ∈ AL, w.before args s = true) {own : String} {index : Nat} (hown : s.vm.findClass own = some m.cls) (hE : en dC dI dA sz s) (hG : ty_ok (dC, dI) vwCl Γ (TP dA Γ g) sz X H) (hS0 : va_S (ty_A sz) H0 H locs) (hU : Un Γ) (ha : Γ a = (4, i)) (hl : Cond.fieldLink own index "WeekBank$Gift" "year" "I" ∈ AL) {x : Int32} (hdg : decode cc pc = .ok (.putfield index, 3)) (kk : ∀ (H1 : Heap) (locs1 : List Loc), ty_ok (dC, dI) vwCl Γ (TP dA Γ (gs g 63 i x.toInt)) sz X H1 → va_S (ty_A sz) H0 H1 locs1 → W p l e R s m args below meth c H1 locs1 cells slots Q (F0 m (pc + 3) ls rest)) : W p l e R s m args below meth c H locs cells slots Q (F0 m pc ls (.int x :: .ref a :: rest)) :=
  ty_putG (T' := TP dA Γ (gs g 63 i x.toInt)) (Tb := TX2) (C := RX2) (N := 10) (ci := 2) (F := F2 Γ g i) (F' := F2 Γ (gs g 63 i x.toInt) i) hx hb hA in_X2 tyX2 tyX2_ok nmX2 hown hE.1 hG hS0 (by rw [(by rw [ha] : (Γ a).1 = 4)]; decide) (fun x h => by rw [TP_4 (by rw [ha] : (Γ a).1 = 4)] at h; rw [show (Γ a).2 = i by rw [ha]] at h; exact h) (fun x h => by rw [TP_4 (by rw [ha] : (Γ a).1 = 4)]; rw [show (Γ a).2 = i by rw [ha]]; exact h) rfl 4 (by decide) (hA _ hl) (fun _ h => h) rfl (ty := .int) (tyX2_ok 4 (by decide)) (rfl) (rfl) (fun j hj hne v hv => match j, hj, hne, v, hv with
      | 0, _, _, v, hv => hv
      | 1, _, _, v, hv => hv
      | 2, _, _, v, hv => hv
      | 3, _, _, v, hv => hv
      | 4, _, hne, v, hv => absurd rfl hne
      | 5, _, _, v, hv => hv
      | 6, _, _, v, hv => hv
      | 7, _, _, v, hv => hv
      | 8, _, _, v, hv => hv
      | 9, _, _, v, hv => hv) ⟨x, rfl, (gs_self _ _ _ _).symm⟩ (fun b y hb h0 h => TP_gs (by show ((Γ b).1 == 4 && (Γ b).2 == i) = false; have := hU.two ha rfl hb; rw [Bool.and_eq_false_iff]; by_cases e1 : (Γ b).1 = 4; exact Or.inr (beq_eq_false_iff_ne.mpr (fun e2 => this (Prod.ext e1 e2))); exact Or.inl (beq_eq_false_iff_ne.mpr e1)) h) hdg kk
theorem get_X2_5 {i : Nat} (hx : p.tables.exec = Jvm.exec) (hb : c.code = cc) (hA : ∀ w ∈ AL, w.before args s = true) {own : String} {index : Nat} (hown : s.vm.findClass own = some m.cls) (hE : en dC dI dA sz s) (hG : ty_ok (dC, dI) vwCl Γ (TP dA Γ g) sz X H) (ha : Γ a = (4, i)) (hl : Cond.fieldLink own index "WeekBank$Gift" "worth" "I" ∈ AL) (hdg : decode cc pc = .ok (.getfield index, 3)) (kk : ∀ x : Int32, x.toInt = g 64 i → W p l e R s m args below meth c H locs cells slots Q (F0 m (pc + 3) ls (.int x :: rest))) : W p l e R s m args below meth c H locs cells slots Q (F0 m pc ls (.ref a :: rest)) := by
  refine ty_get (Tb := TX2) (C := RX2) (N := 10) (ci := 2) (F := F2 Γ g i) hx hb hA in_X2 hown hE.1 hG (by rw [(by rw [ha] : (Γ a).1 = 4)]; decide) (fun x h => by rw [TP_4 (by rw [ha] : (Γ a).1 = 4)] at h; rw [show (Γ a).2 = i by rw [ha]] at h; exact h) rfl 5 (by decide) (hA _ hl) (fun _ h => h) hdg (fun v hv => ?_)
  obtain ⟨x, rfl, h2⟩ := hv; exact kk x h2
theorem put_X2_5 {i : Nat} (hx : p.tables.exec = Jvm.exec) (hb : c.code = cc) (hA : ∀ w ∈ AL, w.before args s = true) {own : String} {index : Nat} (hown : s.vm.findClass own = some m.cls) (hE : en dC dI dA sz s) (hG : ty_ok (dC, dI) vwCl Γ (TP dA Γ g) sz X H) (hS0 : va_S (ty_A sz) H0 H locs) (hU : Un Γ) (ha : Γ a = (4, i)) (hl : Cond.fieldLink own index "WeekBank$Gift" "worth" "I" ∈ AL) {x : Int32} (hdg : decode cc pc = .ok (.putfield index, 3)) (kk : ∀ (H1 : Heap) (locs1 : List Loc), ty_ok (dC, dI) vwCl Γ (TP dA Γ (gs g 64 i x.toInt)) sz X H1 → va_S (ty_A sz) H0 H1 locs1 → W p l e R s m args below meth c H1 locs1 cells slots Q (F0 m (pc + 3) ls rest)) : W p l e R s m args below meth c H locs cells slots Q (F0 m pc ls (.int x :: .ref a :: rest)) :=
  ty_putG (T' := TP dA Γ (gs g 64 i x.toInt)) (Tb := TX2) (C := RX2) (N := 10) (ci := 2) (F := F2 Γ g i) (F' := F2 Γ (gs g 64 i x.toInt) i) hx hb hA in_X2 tyX2 tyX2_ok nmX2 hown hE.1 hG hS0 (by rw [(by rw [ha] : (Γ a).1 = 4)]; decide) (fun x h => by rw [TP_4 (by rw [ha] : (Γ a).1 = 4)] at h; rw [show (Γ a).2 = i by rw [ha]] at h; exact h) (fun x h => by rw [TP_4 (by rw [ha] : (Γ a).1 = 4)]; rw [show (Γ a).2 = i by rw [ha]]; exact h) rfl 5 (by decide) (hA _ hl) (fun _ h => h) rfl (ty := .int) (tyX2_ok 5 (by decide)) (rfl) (rfl) (fun j hj hne v hv => match j, hj, hne, v, hv with
      | 0, _, _, v, hv => hv
      | 1, _, _, v, hv => hv
      | 2, _, _, v, hv => hv
      | 3, _, _, v, hv => hv
      | 4, _, _, v, hv => hv
      | 5, _, hne, v, hv => absurd rfl hne
      | 6, _, _, v, hv => hv
      | 7, _, _, v, hv => hv
      | 8, _, _, v, hv => hv
      | 9, _, _, v, hv => hv) ⟨x, rfl, (gs_self _ _ _ _).symm⟩ (fun b y hb h0 h => TP_gs (by show ((Γ b).1 == 4 && (Γ b).2 == i) = false; have := hU.two ha rfl hb; rw [Bool.and_eq_false_iff]; by_cases e1 : (Γ b).1 = 4; exact Or.inr (beq_eq_false_iff_ne.mpr (fun e2 => this (Prod.ext e1 e2))); exact Or.inl (beq_eq_false_iff_ne.mpr e1)) h) hdg kk
theorem get_X2_6 {i : Nat} (hx : p.tables.exec = Jvm.exec) (hb : c.code = cc) (hA : ∀ w ∈ AL, w.before args s = true) {own : String} {index : Nat} (hown : s.vm.findClass own = some m.cls) (hE : en dC dI dA sz s) (hG : ty_ok (dC, dI) vwCl Γ (TP dA Γ g) sz X H) (ha : Γ a = (4, i)) (hl : Cond.fieldLink own index "WeekBank$Gift" "state" "I" ∈ AL) (hdg : decode cc pc = .ok (.getfield index, 3)) (kk : ∀ x : Int32, x.toInt = g 65 i → W p l e R s m args below meth c H locs cells slots Q (F0 m (pc + 3) ls (.int x :: rest))) : W p l e R s m args below meth c H locs cells slots Q (F0 m pc ls (.ref a :: rest)) := by
  refine ty_get (Tb := TX2) (C := RX2) (N := 10) (ci := 2) (F := F2 Γ g i) hx hb hA in_X2 hown hE.1 hG (by rw [(by rw [ha] : (Γ a).1 = 4)]; decide) (fun x h => by rw [TP_4 (by rw [ha] : (Γ a).1 = 4)] at h; rw [show (Γ a).2 = i by rw [ha]] at h; exact h) rfl 6 (by decide) (hA _ hl) (fun _ h => h) hdg (fun v hv => ?_)
  obtain ⟨x, rfl, h2⟩ := hv; exact kk x h2
theorem put_X2_6 {i : Nat} (hx : p.tables.exec = Jvm.exec) (hb : c.code = cc) (hA : ∀ w ∈ AL, w.before args s = true) {own : String} {index : Nat} (hown : s.vm.findClass own = some m.cls) (hE : en dC dI dA sz s) (hG : ty_ok (dC, dI) vwCl Γ (TP dA Γ g) sz X H) (hS0 : va_S (ty_A sz) H0 H locs) (hU : Un Γ) (ha : Γ a = (4, i)) (hl : Cond.fieldLink own index "WeekBank$Gift" "state" "I" ∈ AL) {x : Int32} (hdg : decode cc pc = .ok (.putfield index, 3)) (kk : ∀ (H1 : Heap) (locs1 : List Loc), ty_ok (dC, dI) vwCl Γ (TP dA Γ (gs g 65 i x.toInt)) sz X H1 → va_S (ty_A sz) H0 H1 locs1 → W p l e R s m args below meth c H1 locs1 cells slots Q (F0 m (pc + 3) ls rest)) : W p l e R s m args below meth c H locs cells slots Q (F0 m pc ls (.int x :: .ref a :: rest)) :=
  ty_putG (T' := TP dA Γ (gs g 65 i x.toInt)) (Tb := TX2) (C := RX2) (N := 10) (ci := 2) (F := F2 Γ g i) (F' := F2 Γ (gs g 65 i x.toInt) i) hx hb hA in_X2 tyX2 tyX2_ok nmX2 hown hE.1 hG hS0 (by rw [(by rw [ha] : (Γ a).1 = 4)]; decide) (fun x h => by rw [TP_4 (by rw [ha] : (Γ a).1 = 4)] at h; rw [show (Γ a).2 = i by rw [ha]] at h; exact h) (fun x h => by rw [TP_4 (by rw [ha] : (Γ a).1 = 4)]; rw [show (Γ a).2 = i by rw [ha]]; exact h) rfl 6 (by decide) (hA _ hl) (fun _ h => h) rfl (ty := .int) (tyX2_ok 6 (by decide)) (rfl) (rfl) (fun j hj hne v hv => match j, hj, hne, v, hv with
      | 0, _, _, v, hv => hv
      | 1, _, _, v, hv => hv
      | 2, _, _, v, hv => hv
      | 3, _, _, v, hv => hv
      | 4, _, _, v, hv => hv
      | 5, _, _, v, hv => hv
      | 6, _, hne, v, hv => absurd rfl hne
      | 7, _, _, v, hv => hv
      | 8, _, _, v, hv => hv
      | 9, _, _, v, hv => hv) ⟨x, rfl, (gs_self _ _ _ _).symm⟩ (fun b y hb h0 h => TP_gs (by show ((Γ b).1 == 4 && (Γ b).2 == i) = false; have := hU.two ha rfl hb; rw [Bool.and_eq_false_iff]; by_cases e1 : (Γ b).1 = 4; exact Or.inr (beq_eq_false_iff_ne.mpr (fun e2 => this (Prod.ext e1 e2))); exact Or.inl (beq_eq_false_iff_ne.mpr e1)) h) hdg kk
theorem get_X2_7 {i : Nat} (hx : p.tables.exec = Jvm.exec) (hb : c.code = cc) (hA : ∀ w ∈ AL, w.before args s = true) {own : String} {index : Nat} (hown : s.vm.findClass own = some m.cls) (hE : en dC dI dA sz s) (hG : ty_ok (dC, dI) vwCl Γ (TP dA Γ g) sz X H) (ha : Γ a = (4, i)) (hl : Cond.fieldLink own index "WeekBank$Gift" "wish" "LWeekBank$Wish;" ∈ AL) (hdg : decode cc pc = .ok (.getfield index, 3)) (kk : ∀ r : Option Nat, (r = none → g 66 i = -1) → (∀ b, r = some b → Γ b = (5, (g 66 i).toNat) ∧ 0 ≤ g 66 i) → W p l e R s m args below meth c H locs cells slots Q (F0 m (pc + 3) ls (va_rf r :: rest))) : W p l e R s m args below meth c H locs cells slots Q (F0 m pc ls (.ref a :: rest)) := by
  refine ty_get (Tb := TX2) (C := RX2) (N := 10) (ci := 2) (F := F2 Γ g i) hx hb hA in_X2 hown hE.1 hG (by rw [(by rw [ha] : (Γ a).1 = 4)]; decide) (fun x h => by rw [TP_4 (by rw [ha] : (Γ a).1 = 4)] at h; rw [show (Γ a).2 = i by rw [ha]] at h; exact h) rfl 7 (by decide) (hA _ hl) (fun _ h => h) hdg (fun v hv => ?_)
  obtain ⟨r, rfl, h2, h3⟩ := hv; exact kk r h2 h3
theorem put_X2_7 {i : Nat} (hx : p.tables.exec = Jvm.exec) (hb : c.code = cc) (hA : ∀ w ∈ AL, w.before args s = true) {own : String} {index : Nat} (hown : s.vm.findClass own = some m.cls) (hE : en dC dI dA sz s) (hG : ty_ok (dC, dI) vwCl Γ (TP dA Γ g) sz X H) (hS0 : va_S (ty_A sz) H0 H locs) (hU : Un Γ) (ha : Γ a = (4, i)) (hl : Cond.fieldLink own index "WeekBank$Gift" "wish" "LWeekBank$Wish;" ∈ AL) {r : Option Nat} {z : Int} (hr0 : r = none → z = -1) (hr : ∀ b, r = some b → Γ b = (5, z.toNat) ∧ 0 ≤ z) (hdg : decode cc pc = .ok (.putfield index, 3)) (kk : ∀ (H1 : Heap) (locs1 : List Loc), ty_ok (dC, dI) vwCl Γ (TP dA Γ (gs g 66 i z)) sz X H1 → va_S (ty_A sz) H0 H1 locs1 → W p l e R s m args below meth c H1 locs1 cells slots Q (F0 m (pc + 3) ls rest)) : W p l e R s m args below meth c H locs cells slots Q (F0 m pc ls (va_rf r :: .ref a :: rest)) :=
  ty_putG (T' := TP dA Γ (gs g 66 i z)) (Tb := TX2) (C := RX2) (N := 10) (ci := 2) (F := F2 Γ g i) (F' := F2 Γ (gs g 66 i z) i) hx hb hA in_X2 tyX2 tyX2_ok nmX2 hown hE.1 hG hS0 (by rw [(by rw [ha] : (Γ a).1 = 4)]; decide) (fun x h => by rw [TP_4 (by rw [ha] : (Γ a).1 = 4)] at h; rw [show (Γ a).2 = i by rw [ha]] at h; exact h) (fun x h => by rw [TP_4 (by rw [ha] : (Γ a).1 = 4)]; rw [show (Γ a).2 = i by rw [ha]]; exact h) rfl 7 (by decide) (hA _ hl) (fun _ h => h) rfl (ty := .object "WeekBank$Wish") (tyX2_ok 7 (by decide)) (ty_nq.1) (ty_nq.2) (fun j hj hne v hv => match j, hj, hne, v, hv with
      | 0, _, _, v, hv => hv
      | 1, _, _, v, hv => hv
      | 2, _, _, v, hv => hv
      | 3, _, _, v, hv => hv
      | 4, _, _, v, hv => hv
      | 5, _, _, v, hv => hv
      | 6, _, _, v, hv => hv
      | 7, _, hne, v, hv => absurd rfl hne
      | 8, _, _, v, hv => hv
      | 9, _, _, v, hv => hv) (show vM Γ 5 ((gs g 66 i z) 66 i) (va_rf r) from by rw [gs_self]; exact ⟨r, rfl, hr0, hr⟩) (fun b y hb h0 h => TP_gs (by show ((Γ b).1 == 4 && (Γ b).2 == i) = false; have := hU.two ha rfl hb; rw [Bool.and_eq_false_iff]; by_cases e1 : (Γ b).1 = 4; exact Or.inr (beq_eq_false_iff_ne.mpr (fun e2 => this (Prod.ext e1 e2))); exact Or.inl (beq_eq_false_iff_ne.mpr e1)) h) hdg kk
theorem get_X2_8 {i : Nat} (hx : p.tables.exec = Jvm.exec) (hb : c.code = cc) (hA : ∀ w ∈ AL, w.before args s = true) {own : String} {index : Nat} (hown : s.vm.findClass own = some m.cls) (hE : en dC dI dA sz s) (hG : ty_ok (dC, dI) vwCl Γ (TP dA Γ g) sz X H) (ha : Γ a = (4, i)) (hl : Cond.fieldLink own index "WeekBank$Gift" "got" "LWeekBank$Gift;" ∈ AL) (hdg : decode cc pc = .ok (.getfield index, 3)) (kk : ∀ r : Option Nat, (r = none → g 67 i = -1) → (∀ b, r = some b → Γ b = (4, (g 67 i).toNat) ∧ 0 ≤ g 67 i) → W p l e R s m args below meth c H locs cells slots Q (F0 m (pc + 3) ls (va_rf r :: rest))) : W p l e R s m args below meth c H locs cells slots Q (F0 m pc ls (.ref a :: rest)) := by
  refine ty_get (Tb := TX2) (C := RX2) (N := 10) (ci := 2) (F := F2 Γ g i) hx hb hA in_X2 hown hE.1 hG (by rw [(by rw [ha] : (Γ a).1 = 4)]; decide) (fun x h => by rw [TP_4 (by rw [ha] : (Γ a).1 = 4)] at h; rw [show (Γ a).2 = i by rw [ha]] at h; exact h) rfl 8 (by decide) (hA _ hl) (fun _ h => h) hdg (fun v hv => ?_)
  obtain ⟨r, rfl, h2, h3⟩ := hv; exact kk r h2 h3
theorem put_X2_8 {i : Nat} (hx : p.tables.exec = Jvm.exec) (hb : c.code = cc) (hA : ∀ w ∈ AL, w.before args s = true) {own : String} {index : Nat} (hown : s.vm.findClass own = some m.cls) (hE : en dC dI dA sz s) (hG : ty_ok (dC, dI) vwCl Γ (TP dA Γ g) sz X H) (hS0 : va_S (ty_A sz) H0 H locs) (hU : Un Γ) (ha : Γ a = (4, i)) (hl : Cond.fieldLink own index "WeekBank$Gift" "got" "LWeekBank$Gift;" ∈ AL) {r : Option Nat} {z : Int} (hr0 : r = none → z = -1) (hr : ∀ b, r = some b → Γ b = (4, z.toNat) ∧ 0 ≤ z) (hdg : decode cc pc = .ok (.putfield index, 3)) (kk : ∀ (H1 : Heap) (locs1 : List Loc), ty_ok (dC, dI) vwCl Γ (TP dA Γ (gs g 67 i z)) sz X H1 → va_S (ty_A sz) H0 H1 locs1 → W p l e R s m args below meth c H1 locs1 cells slots Q (F0 m (pc + 3) ls rest)) : W p l e R s m args below meth c H locs cells slots Q (F0 m pc ls (va_rf r :: .ref a :: rest)) :=
  ty_putG (T' := TP dA Γ (gs g 67 i z)) (Tb := TX2) (C := RX2) (N := 10) (ci := 2) (F := F2 Γ g i) (F' := F2 Γ (gs g 67 i z) i) hx hb hA in_X2 tyX2 tyX2_ok nmX2 hown hE.1 hG hS0 (by rw [(by rw [ha] : (Γ a).1 = 4)]; decide) (fun x h => by rw [TP_4 (by rw [ha] : (Γ a).1 = 4)] at h; rw [show (Γ a).2 = i by rw [ha]] at h; exact h) (fun x h => by rw [TP_4 (by rw [ha] : (Γ a).1 = 4)]; rw [show (Γ a).2 = i by rw [ha]]; exact h) rfl 8 (by decide) (hA _ hl) (fun _ h => h) rfl (ty := .object "WeekBank$Gift") (tyX2_ok 8 (by decide)) (ty_nq.1) (ty_nq.2) (fun j hj hne v hv => match j, hj, hne, v, hv with
      | 0, _, _, v, hv => hv
      | 1, _, _, v, hv => hv
      | 2, _, _, v, hv => hv
      | 3, _, _, v, hv => hv
      | 4, _, _, v, hv => hv
      | 5, _, _, v, hv => hv
      | 6, _, _, v, hv => hv
      | 7, _, _, v, hv => hv
      | 8, _, hne, v, hv => absurd rfl hne
      | 9, _, _, v, hv => hv) (show vM Γ 4 ((gs g 67 i z) 67 i) (va_rf r) from by rw [gs_self]; exact ⟨r, rfl, hr0, hr⟩) (fun b y hb h0 h => TP_gs (by show ((Γ b).1 == 4 && (Γ b).2 == i) = false; have := hU.two ha rfl hb; rw [Bool.and_eq_false_iff]; by_cases e1 : (Γ b).1 = 4; exact Or.inr (beq_eq_false_iff_ne.mpr (fun e2 => this (Prod.ext e1 e2))); exact Or.inl (beq_eq_false_iff_ne.mpr e1)) h) hdg kk
theorem get_X2_9 {i : Nat} (hx : p.tables.exec = Jvm.exec) (hb : c.code = cc) (hA : ∀ w ∈ AL, w.before args s = true) {own : String} {index : Nat} (hown : s.vm.findClass own = some m.cls) (hE : en dC dI dA sz s) (hG : ty_ok (dC, dI) vwCl Γ (TP dA Γ g) sz X H) (ha : Γ a = (4, i)) (hl : Cond.fieldLink own index "WeekBank$Gift" "getter" "LWeekBank$Owner;" ∈ AL) (hdg : decode cc pc = .ok (.getfield index, 3)) (kk : ∀ r : Option Nat, (r = none → g 68 i = -1) → (∀ b, r = some b → Γ b = (3, (g 68 i).toNat) ∧ 0 ≤ g 68 i) → W p l e R s m args below meth c H locs cells slots Q (F0 m (pc + 3) ls (va_rf r :: rest))) : W p l e R s m args below meth c H locs cells slots Q (F0 m pc ls (.ref a :: rest)) := by
  refine ty_get (Tb := TX2) (C := RX2) (N := 10) (ci := 2) (F := F2 Γ g i) hx hb hA in_X2 hown hE.1 hG (by rw [(by rw [ha] : (Γ a).1 = 4)]; decide) (fun x h => by rw [TP_4 (by rw [ha] : (Γ a).1 = 4)] at h; rw [show (Γ a).2 = i by rw [ha]] at h; exact h) rfl 9 (by decide) (hA _ hl) (fun _ h => h) hdg (fun v hv => ?_)
  obtain ⟨r, rfl, h2, h3⟩ := hv; exact kk r h2 h3
theorem put_X2_9 {i : Nat} (hx : p.tables.exec = Jvm.exec) (hb : c.code = cc) (hA : ∀ w ∈ AL, w.before args s = true) {own : String} {index : Nat} (hown : s.vm.findClass own = some m.cls) (hE : en dC dI dA sz s) (hG : ty_ok (dC, dI) vwCl Γ (TP dA Γ g) sz X H) (hS0 : va_S (ty_A sz) H0 H locs) (hU : Un Γ) (ha : Γ a = (4, i)) (hl : Cond.fieldLink own index "WeekBank$Gift" "getter" "LWeekBank$Owner;" ∈ AL) {r : Option Nat} {z : Int} (hr0 : r = none → z = -1) (hr : ∀ b, r = some b → Γ b = (3, z.toNat) ∧ 0 ≤ z) (hdg : decode cc pc = .ok (.putfield index, 3)) (kk : ∀ (H1 : Heap) (locs1 : List Loc), ty_ok (dC, dI) vwCl Γ (TP dA Γ (gs g 68 i z)) sz X H1 → va_S (ty_A sz) H0 H1 locs1 → W p l e R s m args below meth c H1 locs1 cells slots Q (F0 m (pc + 3) ls rest)) : W p l e R s m args below meth c H locs cells slots Q (F0 m pc ls (va_rf r :: .ref a :: rest)) :=
  ty_putG (T' := TP dA Γ (gs g 68 i z)) (Tb := TX2) (C := RX2) (N := 10) (ci := 2) (F := F2 Γ g i) (F' := F2 Γ (gs g 68 i z) i) hx hb hA in_X2 tyX2 tyX2_ok nmX2 hown hE.1 hG hS0 (by rw [(by rw [ha] : (Γ a).1 = 4)]; decide) (fun x h => by rw [TP_4 (by rw [ha] : (Γ a).1 = 4)] at h; rw [show (Γ a).2 = i by rw [ha]] at h; exact h) (fun x h => by rw [TP_4 (by rw [ha] : (Γ a).1 = 4)]; rw [show (Γ a).2 = i by rw [ha]]; exact h) rfl 9 (by decide) (hA _ hl) (fun _ h => h) rfl (ty := .object "WeekBank$Owner") (tyX2_ok 9 (by decide)) (ty_nq.1) (ty_nq.2) (fun j hj hne v hv => match j, hj, hne, v, hv with
      | 0, _, _, v, hv => hv
      | 1, _, _, v, hv => hv
      | 2, _, _, v, hv => hv
      | 3, _, _, v, hv => hv
      | 4, _, _, v, hv => hv
      | 5, _, _, v, hv => hv
      | 6, _, _, v, hv => hv
      | 7, _, _, v, hv => hv
      | 8, _, _, v, hv => hv
      | 9, _, hne, v, hv => absurd rfl hne) (show vM Γ 3 ((gs g 68 i z) 68 i) (va_rf r) from by rw [gs_self]; exact ⟨r, rfl, hr0, hr⟩) (fun b y hb h0 h => TP_gs (by show ((Γ b).1 == 4 && (Γ b).2 == i) = false; have := hU.two ha rfl hb; rw [Bool.and_eq_false_iff]; by_cases e1 : (Γ b).1 = 4; exact Or.inr (beq_eq_false_iff_ne.mpr (fun e2 => this (Prod.ext e1 e2))); exact Or.inl (beq_eq_false_iff_ne.mpr e1)) h) hdg kk
theorem get_X3_0 {i : Nat} (hx : p.tables.exec = Jvm.exec) (hb : c.code = cc) (hA : ∀ w ∈ AL, w.before args s = true) {own : String} {index : Nat} (hown : s.vm.findClass own = some m.cls) (hE : en dC dI dA sz s) (hG : ty_ok (dC, dI) vwCl Γ (TP dA Γ g) sz X H) (ha : Γ a = (3, i)) (hl : Cond.fieldLink own index "WeekBank$Owner" "number" "I" ∈ AL) (hdg : decode cc pc = .ok (.getfield index, 3)) (kk : ∀ x : Int32, x.toInt = (i : Int) → W p l e R s m args below meth c H locs cells slots Q (F0 m (pc + 3) ls (.int x :: rest))) : W p l e R s m args below meth c H locs cells slots Q (F0 m pc ls (.ref a :: rest)) := by
  refine ty_get (Tb := TX3) (C := RX3) (N := 8) (ci := 3) (F := F3 Γ g i) hx hb hA in_X3 hown hE.1 hG (by rw [(by rw [ha] : (Γ a).1 = 3)]; decide) (fun x h => by rw [TP_3 (by rw [ha] : (Γ a).1 = 3)] at h; rw [show (Γ a).2 = i by rw [ha]] at h; exact h) rfl 0 (by decide) (hA _ hl) (fun _ h => h) hdg (fun v hv => ?_)
  obtain ⟨x, rfl, h2⟩ := hv; exact kk x h2
theorem get_X3_1 {i : Nat} (hx : p.tables.exec = Jvm.exec) (hb : c.code = cc) (hA : ∀ w ∈ AL, w.before args s = true) {own : String} {index : Nat} (hown : s.vm.findClass own = some m.cls) (hE : en dC dI dA sz s) (hG : ty_ok (dC, dI) vwCl Γ (TP dA Γ g) sz X H) (ha : Γ a = (3, i)) (hl : Cond.fieldLink own index "WeekBank$Owner" "limit" "I" ∈ AL) (hdg : decode cc pc = .ok (.getfield index, 3)) (kk : ∀ x : Int32, x.toInt = g 50 i → W p l e R s m args below meth c H locs cells slots Q (F0 m (pc + 3) ls (.int x :: rest))) : W p l e R s m args below meth c H locs cells slots Q (F0 m pc ls (.ref a :: rest)) := by
  refine ty_get (Tb := TX3) (C := RX3) (N := 8) (ci := 3) (F := F3 Γ g i) hx hb hA in_X3 hown hE.1 hG (by rw [(by rw [ha] : (Γ a).1 = 3)]; decide) (fun x h => by rw [TP_3 (by rw [ha] : (Γ a).1 = 3)] at h; rw [show (Γ a).2 = i by rw [ha]] at h; exact h) rfl 1 (by decide) (hA _ hl) (fun _ h => h) hdg (fun v hv => ?_)
  obtain ⟨x, rfl, h2⟩ := hv; exact kk x h2
theorem get_X3_2 {i : Nat} (hx : p.tables.exec = Jvm.exec) (hb : c.code = cc) (hA : ∀ w ∈ AL, w.before args s = true) {own : String} {index : Nat} (hown : s.vm.findClass own = some m.cls) (hE : en dC dI dA sz s) (hG : ty_ok (dC, dI) vwCl Γ (TP dA Γ g) sz X H) (ha : Γ a = (3, i)) (hl : Cond.fieldLink own index "WeekBank$Owner" "points" "I" ∈ AL) (hdg : decode cc pc = .ok (.getfield index, 3)) (kk : ∀ x : Int32, x.toInt = g 51 i → W p l e R s m args below meth c H locs cells slots Q (F0 m (pc + 3) ls (.int x :: rest))) : W p l e R s m args below meth c H locs cells slots Q (F0 m pc ls (.ref a :: rest)) := by
  refine ty_get (Tb := TX3) (C := RX3) (N := 8) (ci := 3) (F := F3 Γ g i) hx hb hA in_X3 hown hE.1 hG (by rw [(by rw [ha] : (Γ a).1 = 3)]; decide) (fun x h => by rw [TP_3 (by rw [ha] : (Γ a).1 = 3)] at h; rw [show (Γ a).2 = i by rw [ha]] at h; exact h) rfl 2 (by decide) (hA _ hl) (fun _ h => h) hdg (fun v hv => ?_)
  obtain ⟨x, rfl, h2⟩ := hv; exact kk x h2
theorem put_X3_2 {i : Nat} (hx : p.tables.exec = Jvm.exec) (hb : c.code = cc) (hA : ∀ w ∈ AL, w.before args s = true) {own : String} {index : Nat} (hown : s.vm.findClass own = some m.cls) (hE : en dC dI dA sz s) (hG : ty_ok (dC, dI) vwCl Γ (TP dA Γ g) sz X H) (hS0 : va_S (ty_A sz) H0 H locs) (hU : Un Γ) (ha : Γ a = (3, i)) (hl : Cond.fieldLink own index "WeekBank$Owner" "points" "I" ∈ AL) {x : Int32} (hdg : decode cc pc = .ok (.putfield index, 3)) (kk : ∀ (H1 : Heap) (locs1 : List Loc), ty_ok (dC, dI) vwCl Γ (TP dA Γ (gs g 51 i x.toInt)) sz X H1 → va_S (ty_A sz) H0 H1 locs1 → W p l e R s m args below meth c H1 locs1 cells slots Q (F0 m (pc + 3) ls rest)) : W p l e R s m args below meth c H locs cells slots Q (F0 m pc ls (.int x :: .ref a :: rest)) :=
  ty_putG (T' := TP dA Γ (gs g 51 i x.toInt)) (Tb := TX3) (C := RX3) (N := 8) (ci := 3) (F := F3 Γ g i) (F' := F3 Γ (gs g 51 i x.toInt) i) hx hb hA in_X3 tyX3 tyX3_ok nmX3 hown hE.1 hG hS0 (by rw [(by rw [ha] : (Γ a).1 = 3)]; decide) (fun x h => by rw [TP_3 (by rw [ha] : (Γ a).1 = 3)] at h; rw [show (Γ a).2 = i by rw [ha]] at h; exact h) (fun x h => by rw [TP_3 (by rw [ha] : (Γ a).1 = 3)]; rw [show (Γ a).2 = i by rw [ha]]; exact h) rfl 2 (by decide) (hA _ hl) (fun _ h => h) rfl (ty := .int) (tyX3_ok 2 (by decide)) (rfl) (rfl) (fun j hj hne v hv => match j, hj, hne, v, hv with
      | 0, _, _, v, hv => hv
      | 1, _, _, v, hv => hv
      | 2, _, hne, v, hv => absurd rfl hne
      | 3, _, _, v, hv => hv
      | 4, _, _, v, hv => hv
      | 5, _, _, v, hv => hv
      | 6, _, _, v, hv => hv
      | 7, _, _, v, hv => hv) ⟨x, rfl, (gs_self _ _ _ _).symm⟩ (fun b y hb h0 h => TP_gs (by show ((Γ b).1 == 3 && (Γ b).2 == i) = false; have := hU.two ha rfl hb; rw [Bool.and_eq_false_iff]; by_cases e1 : (Γ b).1 = 3; exact Or.inr (beq_eq_false_iff_ne.mpr (fun e2 => this (Prod.ext e1 e2))); exact Or.inl (beq_eq_false_iff_ne.mpr e1)) h) hdg kk
theorem get_X3_3 {i : Nat} (hx : p.tables.exec = Jvm.exec) (hb : c.code = cc) (hA : ∀ w ∈ AL, w.before args s = true) {own : String} {index : Nat} (hown : s.vm.findClass own = some m.cls) (hE : en dC dI dA sz s) (hG : ty_ok (dC, dI) vwCl Γ (TP dA Γ g) sz X H) (ha : Γ a = (3, i)) (hl : Cond.fieldLink own index "WeekBank$Owner" "luck" "I" ∈ AL) (hdg : decode cc pc = .ok (.getfield index, 3)) (kk : ∀ x : Int32, x.toInt = g 52 i → W p l e R s m args below meth c H locs cells slots Q (F0 m (pc + 3) ls (.int x :: rest))) : W p l e R s m args below meth c H locs cells slots Q (F0 m pc ls (.ref a :: rest)) := by
  refine ty_get (Tb := TX3) (C := RX3) (N := 8) (ci := 3) (F := F3 Γ g i) hx hb hA in_X3 hown hE.1 hG (by rw [(by rw [ha] : (Γ a).1 = 3)]; decide) (fun x h => by rw [TP_3 (by rw [ha] : (Γ a).1 = 3)] at h; rw [show (Γ a).2 = i by rw [ha]] at h; exact h) rfl 3 (by decide) (hA _ hl) (fun _ h => h) hdg (fun v hv => ?_)
  obtain ⟨x, rfl, h2⟩ := hv; exact kk x h2
theorem put_X3_3 {i : Nat} (hx : p.tables.exec = Jvm.exec) (hb : c.code = cc) (hA : ∀ w ∈ AL, w.before args s = true) {own : String} {index : Nat} (hown : s.vm.findClass own = some m.cls) (hE : en dC dI dA sz s) (hG : ty_ok (dC, dI) vwCl Γ (TP dA Γ g) sz X H) (hS0 : va_S (ty_A sz) H0 H locs) (hU : Un Γ) (ha : Γ a = (3, i)) (hl : Cond.fieldLink own index "WeekBank$Owner" "luck" "I" ∈ AL) {x : Int32} (hdg : decode cc pc = .ok (.putfield index, 3)) (kk : ∀ (H1 : Heap) (locs1 : List Loc), ty_ok (dC, dI) vwCl Γ (TP dA Γ (gs g 52 i x.toInt)) sz X H1 → va_S (ty_A sz) H0 H1 locs1 → W p l e R s m args below meth c H1 locs1 cells slots Q (F0 m (pc + 3) ls rest)) : W p l e R s m args below meth c H locs cells slots Q (F0 m pc ls (.int x :: .ref a :: rest)) :=
  ty_putG (T' := TP dA Γ (gs g 52 i x.toInt)) (Tb := TX3) (C := RX3) (N := 8) (ci := 3) (F := F3 Γ g i) (F' := F3 Γ (gs g 52 i x.toInt) i) hx hb hA in_X3 tyX3 tyX3_ok nmX3 hown hE.1 hG hS0 (by rw [(by rw [ha] : (Γ a).1 = 3)]; decide) (fun x h => by rw [TP_3 (by rw [ha] : (Γ a).1 = 3)] at h; rw [show (Γ a).2 = i by rw [ha]] at h; exact h) (fun x h => by rw [TP_3 (by rw [ha] : (Γ a).1 = 3)]; rw [show (Γ a).2 = i by rw [ha]]; exact h) rfl 3 (by decide) (hA _ hl) (fun _ h => h) rfl (ty := .int) (tyX3_ok 3 (by decide)) (rfl) (rfl) (fun j hj hne v hv => match j, hj, hne, v, hv with
      | 0, _, _, v, hv => hv
      | 1, _, _, v, hv => hv
      | 2, _, _, v, hv => hv
      | 3, _, hne, v, hv => absurd rfl hne
      | 4, _, _, v, hv => hv
      | 5, _, _, v, hv => hv
      | 6, _, _, v, hv => hv
      | 7, _, _, v, hv => hv) ⟨x, rfl, (gs_self _ _ _ _).symm⟩ (fun b y hb h0 h => TP_gs (by show ((Γ b).1 == 3 && (Γ b).2 == i) = false; have := hU.two ha rfl hb; rw [Bool.and_eq_false_iff]; by_cases e1 : (Γ b).1 = 3; exact Or.inr (beq_eq_false_iff_ne.mpr (fun e2 => this (Prod.ext e1 e2))); exact Or.inl (beq_eq_false_iff_ne.mpr e1)) h) hdg kk
theorem get_X3_4 {i : Nat} (hx : p.tables.exec = Jvm.exec) (hb : c.code = cc) (hA : ∀ w ∈ AL, w.before args s = true) {own : String} {index : Nat} (hown : s.vm.findClass own = some m.cls) (hE : en dC dI dA sz s) (hG : ty_ok (dC, dI) vwCl Γ (TP dA Γ g) sz X H) (ha : Γ a = (3, i)) (hl : Cond.fieldLink own index "WeekBank$Owner" "weeksOwned" "I" ∈ AL) (hdg : decode cc pc = .ok (.getfield index, 3)) (kk : ∀ x : Int32, x.toInt = g 53 i → W p l e R s m args below meth c H locs cells slots Q (F0 m (pc + 3) ls (.int x :: rest))) : W p l e R s m args below meth c H locs cells slots Q (F0 m pc ls (.ref a :: rest)) := by
  refine ty_get (Tb := TX3) (C := RX3) (N := 8) (ci := 3) (F := F3 Γ g i) hx hb hA in_X3 hown hE.1 hG (by rw [(by rw [ha] : (Γ a).1 = 3)]; decide) (fun x h => by rw [TP_3 (by rw [ha] : (Γ a).1 = 3)] at h; rw [show (Γ a).2 = i by rw [ha]] at h; exact h) rfl 4 (by decide) (hA _ hl) (fun _ h => h) hdg (fun v hv => ?_)
  obtain ⟨x, rfl, h2⟩ := hv; exact kk x h2
theorem put_X3_4 {i : Nat} (hx : p.tables.exec = Jvm.exec) (hb : c.code = cc) (hA : ∀ w ∈ AL, w.before args s = true) {own : String} {index : Nat} (hown : s.vm.findClass own = some m.cls) (hE : en dC dI dA sz s) (hG : ty_ok (dC, dI) vwCl Γ (TP dA Γ g) sz X H) (hS0 : va_S (ty_A sz) H0 H locs) (hU : Un Γ) (ha : Γ a = (3, i)) (hl : Cond.fieldLink own index "WeekBank$Owner" "weeksOwned" "I" ∈ AL) {x : Int32} (hdg : decode cc pc = .ok (.putfield index, 3)) (kk : ∀ (H1 : Heap) (locs1 : List Loc), ty_ok (dC, dI) vwCl Γ (TP dA Γ (gs g 53 i x.toInt)) sz X H1 → va_S (ty_A sz) H0 H1 locs1 → W p l e R s m args below meth c H1 locs1 cells slots Q (F0 m (pc + 3) ls rest)) : W p l e R s m args below meth c H locs cells slots Q (F0 m pc ls (.int x :: .ref a :: rest)) :=
  ty_putG (T' := TP dA Γ (gs g 53 i x.toInt)) (Tb := TX3) (C := RX3) (N := 8) (ci := 3) (F := F3 Γ g i) (F' := F3 Γ (gs g 53 i x.toInt) i) hx hb hA in_X3 tyX3 tyX3_ok nmX3 hown hE.1 hG hS0 (by rw [(by rw [ha] : (Γ a).1 = 3)]; decide) (fun x h => by rw [TP_3 (by rw [ha] : (Γ a).1 = 3)] at h; rw [show (Γ a).2 = i by rw [ha]] at h; exact h) (fun x h => by rw [TP_3 (by rw [ha] : (Γ a).1 = 3)]; rw [show (Γ a).2 = i by rw [ha]]; exact h) rfl 4 (by decide) (hA _ hl) (fun _ h => h) rfl (ty := .int) (tyX3_ok 4 (by decide)) (rfl) (rfl) (fun j hj hne v hv => match j, hj, hne, v, hv with
      | 0, _, _, v, hv => hv
      | 1, _, _, v, hv => hv
      | 2, _, _, v, hv => hv
      | 3, _, _, v, hv => hv
      | 4, _, hne, v, hv => absurd rfl hne
      | 5, _, _, v, hv => hv
      | 6, _, _, v, hv => hv
      | 7, _, _, v, hv => hv) ⟨x, rfl, (gs_self _ _ _ _).symm⟩ (fun b y hb h0 h => TP_gs (by show ((Γ b).1 == 3 && (Γ b).2 == i) = false; have := hU.two ha rfl hb; rw [Bool.and_eq_false_iff]; by_cases e1 : (Γ b).1 = 3; exact Or.inr (beq_eq_false_iff_ne.mpr (fun e2 => this (Prod.ext e1 e2))); exact Or.inl (beq_eq_false_iff_ne.mpr e1)) h) hdg kk
theorem get_X3_5 {i : Nat} (hx : p.tables.exec = Jvm.exec) (hb : c.code = cc) (hA : ∀ w ∈ AL, w.before args s = true) {own : String} {index : Nat} (hown : s.vm.findClass own = some m.cls) (hE : en dC dI dA sz s) (hG : ty_ok (dC, dI) vwCl Γ (TP dA Γ g) sz X H) (ha : Γ a = (3, i)) (hl : Cond.fieldLink own index "WeekBank$Owner" "isDead" "Z" ∈ AL) (hdg : decode cc pc = .ok (.getfield index, 3)) (kk : ∀ x : Int32, x.toInt = g 54 i → (x.toInt = 0 ∨ x.toInt = 1) → W p l e R s m args below meth c H locs cells slots Q (F0 m (pc + 3) ls (.int x :: rest))) : W p l e R s m args below meth c H locs cells slots Q (F0 m pc ls (.ref a :: rest)) := by
  refine ty_get (Tb := TX3) (C := RX3) (N := 8) (ci := 3) (F := F3 Γ g i) hx hb hA in_X3 hown hE.1 hG (by rw [(by rw [ha] : (Γ a).1 = 3)]; decide) (fun x h => by rw [TP_3 (by rw [ha] : (Γ a).1 = 3)] at h; rw [show (Γ a).2 = i by rw [ha]] at h; exact h) rfl 5 (by decide) (hA _ hl) (fun _ h => h) hdg (fun v hv => ?_)
  obtain ⟨x, rfl, h2, h3⟩ := hv; exact kk x h2 h3
theorem put_X3_5 {i : Nat} (hx : p.tables.exec = Jvm.exec) (hb : c.code = cc) (hA : ∀ w ∈ AL, w.before args s = true) {own : String} {index : Nat} (hown : s.vm.findClass own = some m.cls) (hE : en dC dI dA sz s) (hG : ty_ok (dC, dI) vwCl Γ (TP dA Γ g) sz X H) (hS0 : va_S (ty_A sz) H0 H locs) (hU : Un Γ) (ha : Γ a = (3, i)) (hl : Cond.fieldLink own index "WeekBank$Owner" "isDead" "Z" ∈ AL) {x : Int32} (h01 : x.toInt = 0 ∨ x.toInt = 1) (hdg : decode cc pc = .ok (.putfield index, 3)) (kk : ∀ (H1 : Heap) (locs1 : List Loc), ty_ok (dC, dI) vwCl Γ (TP dA Γ (gs g 54 i x.toInt)) sz X H1 → va_S (ty_A sz) H0 H1 locs1 → W p l e R s m args below meth c H1 locs1 cells slots Q (F0 m (pc + 3) ls rest)) : W p l e R s m args below meth c H locs cells slots Q (F0 m pc ls (.int x :: .ref a :: rest)) :=
  ty_putG (T' := TP dA Γ (gs g 54 i x.toInt)) (Tb := TX3) (C := RX3) (N := 8) (ci := 3) (F := F3 Γ g i) (F' := F3 Γ (gs g 54 i x.toInt) i) hx hb hA in_X3 tyX3 tyX3_ok nmX3 hown hE.1 hG hS0 (by rw [(by rw [ha] : (Γ a).1 = 3)]; decide) (fun x h => by rw [TP_3 (by rw [ha] : (Γ a).1 = 3)] at h; rw [show (Γ a).2 = i by rw [ha]] at h; exact h) (fun x h => by rw [TP_3 (by rw [ha] : (Γ a).1 = 3)]; rw [show (Γ a).2 = i by rw [ha]]; exact h) rfl 5 (by decide) (hA _ hl) (fun _ h => h) rfl (ty := .boolean) (tyX3_ok 5 (by decide)) ((ty_nb h01).1) ((ty_nb h01).2.1) (fun j hj hne v hv => match j, hj, hne, v, hv with
      | 0, _, _, v, hv => hv
      | 1, _, _, v, hv => hv
      | 2, _, _, v, hv => hv
      | 3, _, _, v, hv => hv
      | 4, _, _, v, hv => hv
      | 5, _, hne, v, hv => absurd rfl hne
      | 6, _, _, v, hv => hv
      | 7, _, _, v, hv => hv) ⟨x, rfl, (gs_self _ _ _ _).symm, h01⟩ (fun b y hb h0 h => TP_gs (by show ((Γ b).1 == 3 && (Γ b).2 == i) = false; have := hU.two ha rfl hb; rw [Bool.and_eq_false_iff]; by_cases e1 : (Γ b).1 = 3; exact Or.inr (beq_eq_false_iff_ne.mpr (fun e2 => this (Prod.ext e1 e2))); exact Or.inl (beq_eq_false_iff_ne.mpr e1)) h) hdg kk
theorem get_X3_6 {i : Nat} (hx : p.tables.exec = Jvm.exec) (hb : c.code = cc) (hA : ∀ w ∈ AL, w.before args s = true) {own : String} {index : Nat} (hown : s.vm.findClass own = some m.cls) (hE : en dC dI dA sz s) (hG : ty_ok (dC, dI) vwCl Γ (TP dA Γ g) sz X H) (ha : Γ a = (3, i)) (hl : Cond.fieldLink own index "WeekBank$Owner" "inLine" "Z" ∈ AL) (hdg : decode cc pc = .ok (.getfield index, 3)) (kk : ∀ x : Int32, x.toInt = g 55 i → (x.toInt = 0 ∨ x.toInt = 1) → W p l e R s m args below meth c H locs cells slots Q (F0 m (pc + 3) ls (.int x :: rest))) : W p l e R s m args below meth c H locs cells slots Q (F0 m pc ls (.ref a :: rest)) := by
  refine ty_get (Tb := TX3) (C := RX3) (N := 8) (ci := 3) (F := F3 Γ g i) hx hb hA in_X3 hown hE.1 hG (by rw [(by rw [ha] : (Γ a).1 = 3)]; decide) (fun x h => by rw [TP_3 (by rw [ha] : (Γ a).1 = 3)] at h; rw [show (Γ a).2 = i by rw [ha]] at h; exact h) rfl 6 (by decide) (hA _ hl) (fun _ h => h) hdg (fun v hv => ?_)
  obtain ⟨x, rfl, h2, h3⟩ := hv; exact kk x h2 h3
theorem put_X3_6 {i : Nat} (hx : p.tables.exec = Jvm.exec) (hb : c.code = cc) (hA : ∀ w ∈ AL, w.before args s = true) {own : String} {index : Nat} (hown : s.vm.findClass own = some m.cls) (hE : en dC dI dA sz s) (hG : ty_ok (dC, dI) vwCl Γ (TP dA Γ g) sz X H) (hS0 : va_S (ty_A sz) H0 H locs) (hU : Un Γ) (ha : Γ a = (3, i)) (hl : Cond.fieldLink own index "WeekBank$Owner" "inLine" "Z" ∈ AL) {x : Int32} (h01 : x.toInt = 0 ∨ x.toInt = 1) (hdg : decode cc pc = .ok (.putfield index, 3)) (kk : ∀ (H1 : Heap) (locs1 : List Loc), ty_ok (dC, dI) vwCl Γ (TP dA Γ (gs g 55 i x.toInt)) sz X H1 → va_S (ty_A sz) H0 H1 locs1 → W p l e R s m args below meth c H1 locs1 cells slots Q (F0 m (pc + 3) ls rest)) : W p l e R s m args below meth c H locs cells slots Q (F0 m pc ls (.int x :: .ref a :: rest)) :=
  ty_putG (T' := TP dA Γ (gs g 55 i x.toInt)) (Tb := TX3) (C := RX3) (N := 8) (ci := 3) (F := F3 Γ g i) (F' := F3 Γ (gs g 55 i x.toInt) i) hx hb hA in_X3 tyX3 tyX3_ok nmX3 hown hE.1 hG hS0 (by rw [(by rw [ha] : (Γ a).1 = 3)]; decide) (fun x h => by rw [TP_3 (by rw [ha] : (Γ a).1 = 3)] at h; rw [show (Γ a).2 = i by rw [ha]] at h; exact h) (fun x h => by rw [TP_3 (by rw [ha] : (Γ a).1 = 3)]; rw [show (Γ a).2 = i by rw [ha]]; exact h) rfl 6 (by decide) (hA _ hl) (fun _ h => h) rfl (ty := .boolean) (tyX3_ok 6 (by decide)) ((ty_nb h01).1) ((ty_nb h01).2.1) (fun j hj hne v hv => match j, hj, hne, v, hv with
      | 0, _, _, v, hv => hv
      | 1, _, _, v, hv => hv
      | 2, _, _, v, hv => hv
      | 3, _, _, v, hv => hv
      | 4, _, _, v, hv => hv
      | 5, _, _, v, hv => hv
      | 6, _, hne, v, hv => absurd rfl hne
      | 7, _, _, v, hv => hv) ⟨x, rfl, (gs_self _ _ _ _).symm, h01⟩ (fun b y hb h0 h => TP_gs (by show ((Γ b).1 == 3 && (Γ b).2 == i) = false; have := hU.two ha rfl hb; rw [Bool.and_eq_false_iff]; by_cases e1 : (Γ b).1 = 3; exact Or.inr (beq_eq_false_iff_ne.mpr (fun e2 => this (Prod.ext e1 e2))); exact Or.inl (beq_eq_false_iff_ne.mpr e1)) h) hdg kk
theorem get_X3_7 {i : Nat} (hx : p.tables.exec = Jvm.exec) (hb : c.code = cc) (hA : ∀ w ∈ AL, w.before args s = true) {own : String} {index : Nat} (hown : s.vm.findClass own = some m.cls) (hE : en dC dI dA sz s) (hG : ty_ok (dC, dI) vwCl Γ (TP dA Γ g) sz X H) (ha : Γ a = (3, i)) (hl : Cond.fieldLink own index "WeekBank$Owner" "wish" "LWeekBank$Wish;" ∈ AL) (hdg : decode cc pc = .ok (.getfield index, 3)) (kk : ∀ r : Option Nat, (r = none → g 56 i = -1) → (∀ b, r = some b → Γ b = (5, (g 56 i).toNat) ∧ 0 ≤ g 56 i) → W p l e R s m args below meth c H locs cells slots Q (F0 m (pc + 3) ls (va_rf r :: rest))) : W p l e R s m args below meth c H locs cells slots Q (F0 m pc ls (.ref a :: rest)) := by
  refine ty_get (Tb := TX3) (C := RX3) (N := 8) (ci := 3) (F := F3 Γ g i) hx hb hA in_X3 hown hE.1 hG (by rw [(by rw [ha] : (Γ a).1 = 3)]; decide) (fun x h => by rw [TP_3 (by rw [ha] : (Γ a).1 = 3)] at h; rw [show (Γ a).2 = i by rw [ha]] at h; exact h) rfl 7 (by decide) (hA _ hl) (fun _ h => h) hdg (fun v hv => ?_)
  obtain ⟨r, rfl, h2, h3⟩ := hv; exact kk r h2 h3
theorem put_X3_7 {i : Nat} (hx : p.tables.exec = Jvm.exec) (hb : c.code = cc) (hA : ∀ w ∈ AL, w.before args s = true) {own : String} {index : Nat} (hown : s.vm.findClass own = some m.cls) (hE : en dC dI dA sz s) (hG : ty_ok (dC, dI) vwCl Γ (TP dA Γ g) sz X H) (hS0 : va_S (ty_A sz) H0 H locs) (hU : Un Γ) (ha : Γ a = (3, i)) (hl : Cond.fieldLink own index "WeekBank$Owner" "wish" "LWeekBank$Wish;" ∈ AL) {r : Option Nat} {z : Int} (hr0 : r = none → z = -1) (hr : ∀ b, r = some b → Γ b = (5, z.toNat) ∧ 0 ≤ z) (hdg : decode cc pc = .ok (.putfield index, 3)) (kk : ∀ (H1 : Heap) (locs1 : List Loc), ty_ok (dC, dI) vwCl Γ (TP dA Γ (gs g 56 i z)) sz X H1 → va_S (ty_A sz) H0 H1 locs1 → W p l e R s m args below meth c H1 locs1 cells slots Q (F0 m (pc + 3) ls rest)) : W p l e R s m args below meth c H locs cells slots Q (F0 m pc ls (va_rf r :: .ref a :: rest)) :=
  ty_putG (T' := TP dA Γ (gs g 56 i z)) (Tb := TX3) (C := RX3) (N := 8) (ci := 3) (F := F3 Γ g i) (F' := F3 Γ (gs g 56 i z) i) hx hb hA in_X3 tyX3 tyX3_ok nmX3 hown hE.1 hG hS0 (by rw [(by rw [ha] : (Γ a).1 = 3)]; decide) (fun x h => by rw [TP_3 (by rw [ha] : (Γ a).1 = 3)] at h; rw [show (Γ a).2 = i by rw [ha]] at h; exact h) (fun x h => by rw [TP_3 (by rw [ha] : (Γ a).1 = 3)]; rw [show (Γ a).2 = i by rw [ha]]; exact h) rfl 7 (by decide) (hA _ hl) (fun _ h => h) rfl (ty := .object "WeekBank$Wish") (tyX3_ok 7 (by decide)) (ty_nq.1) (ty_nq.2) (fun j hj hne v hv => match j, hj, hne, v, hv with
      | 0, _, _, v, hv => hv
      | 1, _, _, v, hv => hv
      | 2, _, _, v, hv => hv
      | 3, _, _, v, hv => hv
      | 4, _, _, v, hv => hv
      | 5, _, _, v, hv => hv
      | 6, _, _, v, hv => hv
      | 7, _, hne, v, hv => absurd rfl hne) (show vM Γ 5 ((gs g 56 i z) 56 i) (va_rf r) from by rw [gs_self]; exact ⟨r, rfl, hr0, hr⟩) (fun b y hb h0 h => TP_gs (by show ((Γ b).1 == 3 && (Γ b).2 == i) = false; have := hU.two ha rfl hb; rw [Bool.and_eq_false_iff]; by_cases e1 : (Γ b).1 = 3; exact Or.inr (beq_eq_false_iff_ne.mpr (fun e2 => this (Prod.ext e1 e2))); exact Or.inl (beq_eq_false_iff_ne.mpr e1)) h) hdg kk
theorem get_X4_0 (hx : p.tables.exec = Jvm.exec) (hb : c.code = cc) (hA : ∀ w ∈ AL, w.before args s = true) {own : String} {index : Nat} (hown : s.vm.findClass own = some m.cls) (hE : en dC dI dA sz s) (hG : ty_ok (dC, dI) vwCl Γ (TP dA Γ g) sz X H) (ha : (Γ a).1 = 7) (hl : Cond.fieldLink own index "WeekBank$Reader" "tape" "[I" ∈ AL) (hdg : decode cc pc = .ok (.getfield index, 3)) (kk : ∀ b : Nat, (Γ b).1 = 18 → W p l e R s m args below meth c H locs cells slots Q (F0 m (pc + 3) ls (.ref b :: rest))) : W p l e R s m args below meth c H locs cells slots Q (F0 m pc ls (.ref a :: rest)) := by
  refine ty_get (Tb := TX4) (C := RX4) (N := 8) (ci := 4) (F := F4 Γ g) hx hb hA in_X4 hown hE.1 hG (by rw [ha]; decide) (fun x h => by rw [TP_7 ha] at h; exact h) rfl 0 (by decide) (hA _ hl) (fun _ h => h) hdg (fun v hv => ?_)
  obtain ⟨b, rfl, h2⟩ := hv; exact kk b h2
theorem get_X4_1 (hx : p.tables.exec = Jvm.exec) (hb : c.code = cc) (hA : ∀ w ∈ AL, w.before args s = true) {own : String} {index : Nat} (hown : s.vm.findClass own = some m.cls) (hE : en dC dI dA sz s) (hG : ty_ok (dC, dI) vwCl Γ (TP dA Γ g) sz X H) (ha : (Γ a).1 = 7) (hl : Cond.fieldLink own index "WeekBank$Reader" "length" "I" ∈ AL) (hdg : decode cc pc = .ok (.getfield index, 3)) (kk : ∀ x : Int32, x.toInt = g 6 0 → W p l e R s m args below meth c H locs cells slots Q (F0 m (pc + 3) ls (.int x :: rest))) : W p l e R s m args below meth c H locs cells slots Q (F0 m pc ls (.ref a :: rest)) := by
  refine ty_get (Tb := TX4) (C := RX4) (N := 8) (ci := 4) (F := F4 Γ g) hx hb hA in_X4 hown hE.1 hG (by rw [ha]; decide) (fun x h => by rw [TP_7 ha] at h; exact h) rfl 1 (by decide) (hA _ hl) (fun _ h => h) hdg (fun v hv => ?_)
  obtain ⟨x, rfl, h2⟩ := hv; exact kk x h2
theorem put_X4_1 (hx : p.tables.exec = Jvm.exec) (hb : c.code = cc) (hA : ∀ w ∈ AL, w.before args s = true) {own : String} {index : Nat} (hown : s.vm.findClass own = some m.cls) (hE : en dC dI dA sz s) (hG : ty_ok (dC, dI) vwCl Γ (TP dA Γ g) sz X H) (hS0 : va_S (ty_A sz) H0 H locs) (hU : Un Γ) (ha : (Γ a).1 = 7) (hl : Cond.fieldLink own index "WeekBank$Reader" "length" "I" ∈ AL) {x : Int32} (hdg : decode cc pc = .ok (.putfield index, 3)) (kk : ∀ (H1 : Heap) (locs1 : List Loc), ty_ok (dC, dI) vwCl Γ (TP dA Γ (gs g 6 0 x.toInt)) sz X H1 → va_S (ty_A sz) H0 H1 locs1 → W p l e R s m args below meth c H1 locs1 cells slots Q (F0 m (pc + 3) ls rest)) : W p l e R s m args below meth c H locs cells slots Q (F0 m pc ls (.int x :: .ref a :: rest)) :=
  ty_putG (T' := TP dA Γ (gs g 6 0 x.toInt)) (Tb := TX4) (C := RX4) (N := 8) (ci := 4) (F := F4 Γ g) (F' := F4 Γ (gs g 6 0 x.toInt)) hx hb hA in_X4 tyX4 tyX4_ok nmX4 hown hE.1 hG hS0 (by rw [ha]; decide) (fun x h => by rw [TP_7 ha] at h; exact h) (fun x h => by rw [TP_7 ha]; exact h) rfl 1 (by decide) (hA _ hl) (fun _ h => h) rfl (ty := .int) (tyX4_ok 1 (by decide)) (rfl) (rfl) (fun j hj hne v hv => match j, hj, hne, v, hv with
      | 0, _, _, v, hv => hv
      | 1, _, hne, v, hv => absurd rfl hne
      | 2, _, _, v, hv => hv
      | 3, _, _, v, hv => hv
      | 4, _, _, v, hv => hv
      | 5, _, _, v, hv => hv
      | 6, _, _, v, hv => hv
      | 7, _, _, v, hv => hv) ⟨x, rfl, (gs_self _ _ _ _).symm⟩ (fun b y hb h0 h => TP_gs (by show ((Γ b).1 == 7) = false; exact beq_eq_false_iff_ne.mpr (hU.one ha rfl hb)) h) hdg kk
theorem get_X4_2 (hx : p.tables.exec = Jvm.exec) (hb : c.code = cc) (hA : ∀ w ∈ AL, w.before args s = true) {own : String} {index : Nat} (hown : s.vm.findClass own = some m.cls) (hE : en dC dI dA sz s) (hG : ty_ok (dC, dI) vwCl Γ (TP dA Γ g) sz X H) (ha : (Γ a).1 = 7) (hl : Cond.fieldLink own index "WeekBank$Reader" "fault" "I" ∈ AL) (hdg : decode cc pc = .ok (.getfield index, 3)) (kk : ∀ x : Int32, x.toInt = g 9 0 → W p l e R s m args below meth c H locs cells slots Q (F0 m (pc + 3) ls (.int x :: rest))) : W p l e R s m args below meth c H locs cells slots Q (F0 m pc ls (.ref a :: rest)) := by
  refine ty_get (Tb := TX4) (C := RX4) (N := 8) (ci := 4) (F := F4 Γ g) hx hb hA in_X4 hown hE.1 hG (by rw [ha]; decide) (fun x h => by rw [TP_7 ha] at h; exact h) rfl 2 (by decide) (hA _ hl) (fun _ h => h) hdg (fun v hv => ?_)
  obtain ⟨x, rfl, h2⟩ := hv; exact kk x h2
theorem put_X4_2 (hx : p.tables.exec = Jvm.exec) (hb : c.code = cc) (hA : ∀ w ∈ AL, w.before args s = true) {own : String} {index : Nat} (hown : s.vm.findClass own = some m.cls) (hE : en dC dI dA sz s) (hG : ty_ok (dC, dI) vwCl Γ (TP dA Γ g) sz X H) (hS0 : va_S (ty_A sz) H0 H locs) (hU : Un Γ) (ha : (Γ a).1 = 7) (hl : Cond.fieldLink own index "WeekBank$Reader" "fault" "I" ∈ AL) {x : Int32} (hdg : decode cc pc = .ok (.putfield index, 3)) (kk : ∀ (H1 : Heap) (locs1 : List Loc), ty_ok (dC, dI) vwCl Γ (TP dA Γ (gs g 9 0 x.toInt)) sz X H1 → va_S (ty_A sz) H0 H1 locs1 → W p l e R s m args below meth c H1 locs1 cells slots Q (F0 m (pc + 3) ls rest)) : W p l e R s m args below meth c H locs cells slots Q (F0 m pc ls (.int x :: .ref a :: rest)) :=
  ty_putG (T' := TP dA Γ (gs g 9 0 x.toInt)) (Tb := TX4) (C := RX4) (N := 8) (ci := 4) (F := F4 Γ g) (F' := F4 Γ (gs g 9 0 x.toInt)) hx hb hA in_X4 tyX4 tyX4_ok nmX4 hown hE.1 hG hS0 (by rw [ha]; decide) (fun x h => by rw [TP_7 ha] at h; exact h) (fun x h => by rw [TP_7 ha]; exact h) rfl 2 (by decide) (hA _ hl) (fun _ h => h) rfl (ty := .int) (tyX4_ok 2 (by decide)) (rfl) (rfl) (fun j hj hne v hv => match j, hj, hne, v, hv with
      | 0, _, _, v, hv => hv
      | 1, _, _, v, hv => hv
      | 2, _, hne, v, hv => absurd rfl hne
      | 3, _, _, v, hv => hv
      | 4, _, _, v, hv => hv
      | 5, _, _, v, hv => hv
      | 6, _, _, v, hv => hv
      | 7, _, _, v, hv => hv) ⟨x, rfl, (gs_self _ _ _ _).symm⟩ (fun b y hb h0 h => TP_gs (by show ((Γ b).1 == 7) = false; exact beq_eq_false_iff_ne.mpr (hU.one ha rfl hb)) h) hdg kk
theorem get_X4_3 (hx : p.tables.exec = Jvm.exec) (hb : c.code = cc) (hA : ∀ w ∈ AL, w.before args s = true) {own : String} {index : Nat} (hown : s.vm.findClass own = some m.cls) (hE : en dC dI dA sz s) (hG : ty_ok (dC, dI) vwCl Γ (TP dA Γ g) sz X H) (ha : (Γ a).1 = 7) (hl : Cond.fieldLink own index "WeekBank$Reader" "faultPlace" "I" ∈ AL) (hdg : decode cc pc = .ok (.getfield index, 3)) (kk : ∀ x : Int32, x.toInt = g 14 0 → W p l e R s m args below meth c H locs cells slots Q (F0 m (pc + 3) ls (.int x :: rest))) : W p l e R s m args below meth c H locs cells slots Q (F0 m pc ls (.ref a :: rest)) := by
  refine ty_get (Tb := TX4) (C := RX4) (N := 8) (ci := 4) (F := F4 Γ g) hx hb hA in_X4 hown hE.1 hG (by rw [ha]; decide) (fun x h => by rw [TP_7 ha] at h; exact h) rfl 3 (by decide) (hA _ hl) (fun _ h => h) hdg (fun v hv => ?_)
  obtain ⟨x, rfl, h2⟩ := hv; exact kk x h2
theorem put_X4_3 (hx : p.tables.exec = Jvm.exec) (hb : c.code = cc) (hA : ∀ w ∈ AL, w.before args s = true) {own : String} {index : Nat} (hown : s.vm.findClass own = some m.cls) (hE : en dC dI dA sz s) (hG : ty_ok (dC, dI) vwCl Γ (TP dA Γ g) sz X H) (hS0 : va_S (ty_A sz) H0 H locs) (hU : Un Γ) (ha : (Γ a).1 = 7) (hl : Cond.fieldLink own index "WeekBank$Reader" "faultPlace" "I" ∈ AL) {x : Int32} (hdg : decode cc pc = .ok (.putfield index, 3)) (kk : ∀ (H1 : Heap) (locs1 : List Loc), ty_ok (dC, dI) vwCl Γ (TP dA Γ (gs g 14 0 x.toInt)) sz X H1 → va_S (ty_A sz) H0 H1 locs1 → W p l e R s m args below meth c H1 locs1 cells slots Q (F0 m (pc + 3) ls rest)) : W p l e R s m args below meth c H locs cells slots Q (F0 m pc ls (.int x :: .ref a :: rest)) :=
  ty_putG (T' := TP dA Γ (gs g 14 0 x.toInt)) (Tb := TX4) (C := RX4) (N := 8) (ci := 4) (F := F4 Γ g) (F' := F4 Γ (gs g 14 0 x.toInt)) hx hb hA in_X4 tyX4 tyX4_ok nmX4 hown hE.1 hG hS0 (by rw [ha]; decide) (fun x h => by rw [TP_7 ha] at h; exact h) (fun x h => by rw [TP_7 ha]; exact h) rfl 3 (by decide) (hA _ hl) (fun _ h => h) rfl (ty := .int) (tyX4_ok 3 (by decide)) (rfl) (rfl) (fun j hj hne v hv => match j, hj, hne, v, hv with
      | 0, _, _, v, hv => hv
      | 1, _, _, v, hv => hv
      | 2, _, _, v, hv => hv
      | 3, _, hne, v, hv => absurd rfl hne
      | 4, _, _, v, hv => hv
      | 5, _, _, v, hv => hv
      | 6, _, _, v, hv => hv
      | 7, _, _, v, hv => hv) ⟨x, rfl, (gs_self _ _ _ _).symm⟩ (fun b y hb h0 h => TP_gs (by show ((Γ b).1 == 7) = false; exact beq_eq_false_iff_ne.mpr (hU.one ha rfl hb)) h) hdg kk
theorem get_X4_4 (hx : p.tables.exec = Jvm.exec) (hb : c.code = cc) (hA : ∀ w ∈ AL, w.before args s = true) {own : String} {index : Nat} (hown : s.vm.findClass own = some m.cls) (hE : en dC dI dA sz s) (hG : ty_ok (dC, dI) vwCl Γ (TP dA Γ g) sz X H) (ha : (Γ a).1 = 7) (hl : Cond.fieldLink own index "WeekBank$Reader" "at" "I" ∈ AL) (hdg : decode cc pc = .ok (.getfield index, 3)) (kk : ∀ x : Int32, x.toInt = g 16 0 → W p l e R s m args below meth c H locs cells slots Q (F0 m (pc + 3) ls (.int x :: rest))) : W p l e R s m args below meth c H locs cells slots Q (F0 m pc ls (.ref a :: rest)) := by
  refine ty_get (Tb := TX4) (C := RX4) (N := 8) (ci := 4) (F := F4 Γ g) hx hb hA in_X4 hown hE.1 hG (by rw [ha]; decide) (fun x h => by rw [TP_7 ha] at h; exact h) rfl 4 (by decide) (hA _ hl) (fun _ h => h) hdg (fun v hv => ?_)
  obtain ⟨x, rfl, h2⟩ := hv; exact kk x h2
theorem put_X4_4 (hx : p.tables.exec = Jvm.exec) (hb : c.code = cc) (hA : ∀ w ∈ AL, w.before args s = true) {own : String} {index : Nat} (hown : s.vm.findClass own = some m.cls) (hE : en dC dI dA sz s) (hG : ty_ok (dC, dI) vwCl Γ (TP dA Γ g) sz X H) (hS0 : va_S (ty_A sz) H0 H locs) (hU : Un Γ) (ha : (Γ a).1 = 7) (hl : Cond.fieldLink own index "WeekBank$Reader" "at" "I" ∈ AL) {x : Int32} (hdg : decode cc pc = .ok (.putfield index, 3)) (kk : ∀ (H1 : Heap) (locs1 : List Loc), ty_ok (dC, dI) vwCl Γ (TP dA Γ (gs g 16 0 x.toInt)) sz X H1 → va_S (ty_A sz) H0 H1 locs1 → W p l e R s m args below meth c H1 locs1 cells slots Q (F0 m (pc + 3) ls rest)) : W p l e R s m args below meth c H locs cells slots Q (F0 m pc ls (.int x :: .ref a :: rest)) :=
  ty_putG (T' := TP dA Γ (gs g 16 0 x.toInt)) (Tb := TX4) (C := RX4) (N := 8) (ci := 4) (F := F4 Γ g) (F' := F4 Γ (gs g 16 0 x.toInt)) hx hb hA in_X4 tyX4 tyX4_ok nmX4 hown hE.1 hG hS0 (by rw [ha]; decide) (fun x h => by rw [TP_7 ha] at h; exact h) (fun x h => by rw [TP_7 ha]; exact h) rfl 4 (by decide) (hA _ hl) (fun _ h => h) rfl (ty := .int) (tyX4_ok 4 (by decide)) (rfl) (rfl) (fun j hj hne v hv => match j, hj, hne, v, hv with
      | 0, _, _, v, hv => hv
      | 1, _, _, v, hv => hv
      | 2, _, _, v, hv => hv
      | 3, _, _, v, hv => hv
      | 4, _, hne, v, hv => absurd rfl hne
      | 5, _, _, v, hv => hv
      | 6, _, _, v, hv => hv
      | 7, _, _, v, hv => hv) ⟨x, rfl, (gs_self _ _ _ _).symm⟩ (fun b y hb h0 h => TP_gs (by show ((Γ b).1 == 7) = false; exact beq_eq_false_iff_ne.mpr (hU.one ha rfl hb)) h) hdg kk
theorem get_X4_5 (hx : p.tables.exec = Jvm.exec) (hb : c.code = cc) (hA : ∀ w ∈ AL, w.before args s = true) {own : String} {index : Nat} (hown : s.vm.findClass own = some m.cls) (hE : en dC dI dA sz s) (hG : ty_ok (dC, dI) vwCl Γ (TP dA Γ g) sz X H) (ha : (Γ a).1 = 7) (hl : Cond.fieldLink own index "WeekBank$Reader" "token" "I" ∈ AL) (hdg : decode cc pc = .ok (.getfield index, 3)) (kk : ∀ x : Int32, x.toInt = g 15 0 → W p l e R s m args below meth c H locs cells slots Q (F0 m (pc + 3) ls (.int x :: rest))) : W p l e R s m args below meth c H locs cells slots Q (F0 m pc ls (.ref a :: rest)) := by
  refine ty_get (Tb := TX4) (C := RX4) (N := 8) (ci := 4) (F := F4 Γ g) hx hb hA in_X4 hown hE.1 hG (by rw [ha]; decide) (fun x h => by rw [TP_7 ha] at h; exact h) rfl 5 (by decide) (hA _ hl) (fun _ h => h) hdg (fun v hv => ?_)
  obtain ⟨x, rfl, h2⟩ := hv; exact kk x h2
theorem put_X4_5 (hx : p.tables.exec = Jvm.exec) (hb : c.code = cc) (hA : ∀ w ∈ AL, w.before args s = true) {own : String} {index : Nat} (hown : s.vm.findClass own = some m.cls) (hE : en dC dI dA sz s) (hG : ty_ok (dC, dI) vwCl Γ (TP dA Γ g) sz X H) (hS0 : va_S (ty_A sz) H0 H locs) (hU : Un Γ) (ha : (Γ a).1 = 7) (hl : Cond.fieldLink own index "WeekBank$Reader" "token" "I" ∈ AL) {x : Int32} (hdg : decode cc pc = .ok (.putfield index, 3)) (kk : ∀ (H1 : Heap) (locs1 : List Loc), ty_ok (dC, dI) vwCl Γ (TP dA Γ (gs g 15 0 x.toInt)) sz X H1 → va_S (ty_A sz) H0 H1 locs1 → W p l e R s m args below meth c H1 locs1 cells slots Q (F0 m (pc + 3) ls rest)) : W p l e R s m args below meth c H locs cells slots Q (F0 m pc ls (.int x :: .ref a :: rest)) :=
  ty_putG (T' := TP dA Γ (gs g 15 0 x.toInt)) (Tb := TX4) (C := RX4) (N := 8) (ci := 4) (F := F4 Γ g) (F' := F4 Γ (gs g 15 0 x.toInt)) hx hb hA in_X4 tyX4 tyX4_ok nmX4 hown hE.1 hG hS0 (by rw [ha]; decide) (fun x h => by rw [TP_7 ha] at h; exact h) (fun x h => by rw [TP_7 ha]; exact h) rfl 5 (by decide) (hA _ hl) (fun _ h => h) rfl (ty := .int) (tyX4_ok 5 (by decide)) (rfl) (rfl) (fun j hj hne v hv => match j, hj, hne, v, hv with
      | 0, _, _, v, hv => hv
      | 1, _, _, v, hv => hv
      | 2, _, _, v, hv => hv
      | 3, _, _, v, hv => hv
      | 4, _, _, v, hv => hv
      | 5, _, hne, v, hv => absurd rfl hne
      | 6, _, _, v, hv => hv
      | 7, _, _, v, hv => hv) ⟨x, rfl, (gs_self _ _ _ _).symm⟩ (fun b y hb h0 h => TP_gs (by show ((Γ b).1 == 7) = false; exact beq_eq_false_iff_ne.mpr (hU.one ha rfl hb)) h) hdg kk
theorem get_X4_6 (hx : p.tables.exec = Jvm.exec) (hb : c.code = cc) (hA : ∀ w ∈ AL, w.before args s = true) {own : String} {index : Nat} (hown : s.vm.findClass own = some m.cls) (hE : en dC dI dA sz s) (hG : ty_ok (dC, dI) vwCl Γ (TP dA Γ g) sz X H) (ha : (Γ a).1 = 7) (hl : Cond.fieldLink own index "WeekBank$Reader" "tokenStart" "I" ∈ AL) (hdg : decode cc pc = .ok (.getfield index, 3)) (kk : ∀ x : Int32, x.toInt = g 17 0 → W p l e R s m args below meth c H locs cells slots Q (F0 m (pc + 3) ls (.int x :: rest))) : W p l e R s m args below meth c H locs cells slots Q (F0 m pc ls (.ref a :: rest)) := by
  refine ty_get (Tb := TX4) (C := RX4) (N := 8) (ci := 4) (F := F4 Γ g) hx hb hA in_X4 hown hE.1 hG (by rw [ha]; decide) (fun x h => by rw [TP_7 ha] at h; exact h) rfl 6 (by decide) (hA _ hl) (fun _ h => h) hdg (fun v hv => ?_)
  obtain ⟨x, rfl, h2⟩ := hv; exact kk x h2
theorem put_X4_6 (hx : p.tables.exec = Jvm.exec) (hb : c.code = cc) (hA : ∀ w ∈ AL, w.before args s = true) {own : String} {index : Nat} (hown : s.vm.findClass own = some m.cls) (hE : en dC dI dA sz s) (hG : ty_ok (dC, dI) vwCl Γ (TP dA Γ g) sz X H) (hS0 : va_S (ty_A sz) H0 H locs) (hU : Un Γ) (ha : (Γ a).1 = 7) (hl : Cond.fieldLink own index "WeekBank$Reader" "tokenStart" "I" ∈ AL) {x : Int32} (hdg : decode cc pc = .ok (.putfield index, 3)) (kk : ∀ (H1 : Heap) (locs1 : List Loc), ty_ok (dC, dI) vwCl Γ (TP dA Γ (gs g 17 0 x.toInt)) sz X H1 → va_S (ty_A sz) H0 H1 locs1 → W p l e R s m args below meth c H1 locs1 cells slots Q (F0 m (pc + 3) ls rest)) : W p l e R s m args below meth c H locs cells slots Q (F0 m pc ls (.int x :: .ref a :: rest)) :=
  ty_putG (T' := TP dA Γ (gs g 17 0 x.toInt)) (Tb := TX4) (C := RX4) (N := 8) (ci := 4) (F := F4 Γ g) (F' := F4 Γ (gs g 17 0 x.toInt)) hx hb hA in_X4 tyX4 tyX4_ok nmX4 hown hE.1 hG hS0 (by rw [ha]; decide) (fun x h => by rw [TP_7 ha] at h; exact h) (fun x h => by rw [TP_7 ha]; exact h) rfl 6 (by decide) (hA _ hl) (fun _ h => h) rfl (ty := .int) (tyX4_ok 6 (by decide)) (rfl) (rfl) (fun j hj hne v hv => match j, hj, hne, v, hv with
      | 0, _, _, v, hv => hv
      | 1, _, _, v, hv => hv
      | 2, _, _, v, hv => hv
      | 3, _, _, v, hv => hv
      | 4, _, _, v, hv => hv
      | 5, _, _, v, hv => hv
      | 6, _, hne, v, hv => absurd rfl hne
      | 7, _, _, v, hv => hv) ⟨x, rfl, (gs_self _ _ _ _).symm⟩ (fun b y hb h0 h => TP_gs (by show ((Γ b).1 == 7) = false; exact beq_eq_false_iff_ne.mpr (hU.one ha rfl hb)) h) hdg kk
theorem get_X4_7 (hx : p.tables.exec = Jvm.exec) (hb : c.code = cc) (hA : ∀ w ∈ AL, w.before args s = true) {own : String} {index : Nat} (hown : s.vm.findClass own = some m.cls) (hE : en dC dI dA sz s) (hG : ty_ok (dC, dI) vwCl Γ (TP dA Γ g) sz X H) (ha : (Γ a).1 = 7) (hl : Cond.fieldLink own index "WeekBank$Reader" "tokenNumber" "I" ∈ AL) (hdg : decode cc pc = .ok (.getfield index, 3)) (kk : ∀ x : Int32, x.toInt = g 18 0 → W p l e R s m args below meth c H locs cells slots Q (F0 m (pc + 3) ls (.int x :: rest))) : W p l e R s m args below meth c H locs cells slots Q (F0 m pc ls (.ref a :: rest)) := by
  refine ty_get (Tb := TX4) (C := RX4) (N := 8) (ci := 4) (F := F4 Γ g) hx hb hA in_X4 hown hE.1 hG (by rw [ha]; decide) (fun x h => by rw [TP_7 ha] at h; exact h) rfl 7 (by decide) (hA _ hl) (fun _ h => h) hdg (fun v hv => ?_)
  obtain ⟨x, rfl, h2⟩ := hv; exact kk x h2
theorem put_X4_7 (hx : p.tables.exec = Jvm.exec) (hb : c.code = cc) (hA : ∀ w ∈ AL, w.before args s = true) {own : String} {index : Nat} (hown : s.vm.findClass own = some m.cls) (hE : en dC dI dA sz s) (hG : ty_ok (dC, dI) vwCl Γ (TP dA Γ g) sz X H) (hS0 : va_S (ty_A sz) H0 H locs) (hU : Un Γ) (ha : (Γ a).1 = 7) (hl : Cond.fieldLink own index "WeekBank$Reader" "tokenNumber" "I" ∈ AL) {x : Int32} (hdg : decode cc pc = .ok (.putfield index, 3)) (kk : ∀ (H1 : Heap) (locs1 : List Loc), ty_ok (dC, dI) vwCl Γ (TP dA Γ (gs g 18 0 x.toInt)) sz X H1 → va_S (ty_A sz) H0 H1 locs1 → W p l e R s m args below meth c H1 locs1 cells slots Q (F0 m (pc + 3) ls rest)) : W p l e R s m args below meth c H locs cells slots Q (F0 m pc ls (.int x :: .ref a :: rest)) :=
  ty_putG (T' := TP dA Γ (gs g 18 0 x.toInt)) (Tb := TX4) (C := RX4) (N := 8) (ci := 4) (F := F4 Γ g) (F' := F4 Γ (gs g 18 0 x.toInt)) hx hb hA in_X4 tyX4 tyX4_ok nmX4 hown hE.1 hG hS0 (by rw [ha]; decide) (fun x h => by rw [TP_7 ha] at h; exact h) (fun x h => by rw [TP_7 ha]; exact h) rfl 7 (by decide) (hA _ hl) (fun _ h => h) rfl (ty := .int) (tyX4_ok 7 (by decide)) (rfl) (rfl) (fun j hj hne v hv => match j, hj, hne, v, hv with
      | 0, _, _, v, hv => hv
      | 1, _, _, v, hv => hv
      | 2, _, _, v, hv => hv
      | 3, _, _, v, hv => hv
      | 4, _, _, v, hv => hv
      | 5, _, _, v, hv => hv
      | 6, _, _, v, hv => hv
      | 7, _, hne, v, hv => absurd rfl hne) ⟨x, rfl, (gs_self _ _ _ _).symm⟩ (fun b y hb h0 h => TP_gs (by show ((Γ b).1 == 7) = false; exact beq_eq_false_iff_ne.mpr (hU.one ha rfl hb)) h) hdg kk
theorem get_X5_0 (hx : p.tables.exec = Jvm.exec) (hb : c.code = cc) (hA : ∀ w ∈ AL, w.before args s = true) {own : String} {index : Nat} (hown : s.vm.findClass own = some m.cls) (hE : en dC dI dA sz s) (hG : ty_ok (dC, dI) vwCl Γ (TP dA Γ g) sz X H) (ha : (Γ a).1 = 8) (hl : Cond.fieldLink own index "WeekBank$RingSearch" "members" "[LWeekBank$Gift;" ∈ AL) (hdg : decode cc pc = .ok (.getfield index, 3)) (kk : ∀ b : Nat, (Γ b).1 = 19 → W p l e R s m args below meth c H locs cells slots Q (F0 m (pc + 3) ls (.ref b :: rest))) : W p l e R s m args below meth c H locs cells slots Q (F0 m pc ls (.ref a :: rest)) := by
  refine ty_get (Tb := TX5) (C := RX5) (N := 7) (ci := 5) (F := F5 Γ g) hx hb hA in_X5 hown hE.1 hG (by rw [ha]; decide) (fun x h => by rw [TP_8 ha] at h; exact h) rfl 0 (by decide) (hA _ hl) (fun _ h => h) hdg (fun v hv => ?_)
  obtain ⟨b, rfl, h2⟩ := hv; exact kk b h2
theorem get_X5_1 (hx : p.tables.exec = Jvm.exec) (hb : c.code = cc) (hA : ∀ w ∈ AL, w.before args s = true) {own : String} {index : Nat} (hown : s.vm.findClass own = some m.cls) (hE : en dC dI dA sz s) (hG : ty_ok (dC, dI) vwCl Γ (TP dA Γ g) sz X H) (ha : (Γ a).1 = 8) (hl : Cond.fieldLink own index "WeekBank$RingSearch" "size" "I" ∈ AL) (hdg : decode cc pc = .ok (.getfield index, 3)) (kk : ∀ x : Int32, x.toInt = g 7 0 → W p l e R s m args below meth c H locs cells slots Q (F0 m (pc + 3) ls (.int x :: rest))) : W p l e R s m args below meth c H locs cells slots Q (F0 m pc ls (.ref a :: rest)) := by
  refine ty_get (Tb := TX5) (C := RX5) (N := 7) (ci := 5) (F := F5 Γ g) hx hb hA in_X5 hown hE.1 hG (by rw [ha]; decide) (fun x h => by rw [TP_8 ha] at h; exact h) rfl 1 (by decide) (hA _ hl) (fun _ h => h) hdg (fun v hv => ?_)
  obtain ⟨x, rfl, h2⟩ := hv; exact kk x h2
theorem put_X5_1 (hx : p.tables.exec = Jvm.exec) (hb : c.code = cc) (hA : ∀ w ∈ AL, w.before args s = true) {own : String} {index : Nat} (hown : s.vm.findClass own = some m.cls) (hE : en dC dI dA sz s) (hG : ty_ok (dC, dI) vwCl Γ (TP dA Γ g) sz X H) (hS0 : va_S (ty_A sz) H0 H locs) (hU : Un Γ) (ha : (Γ a).1 = 8) (hl : Cond.fieldLink own index "WeekBank$RingSearch" "size" "I" ∈ AL) {x : Int32} (hdg : decode cc pc = .ok (.putfield index, 3)) (kk : ∀ (H1 : Heap) (locs1 : List Loc), ty_ok (dC, dI) vwCl Γ (TP dA Γ (gs g 7 0 x.toInt)) sz X H1 → va_S (ty_A sz) H0 H1 locs1 → W p l e R s m args below meth c H1 locs1 cells slots Q (F0 m (pc + 3) ls rest)) : W p l e R s m args below meth c H locs cells slots Q (F0 m pc ls (.int x :: .ref a :: rest)) :=
  ty_putG (T' := TP dA Γ (gs g 7 0 x.toInt)) (Tb := TX5) (C := RX5) (N := 7) (ci := 5) (F := F5 Γ g) (F' := F5 Γ (gs g 7 0 x.toInt)) hx hb hA in_X5 tyX5 tyX5_ok nmX5 hown hE.1 hG hS0 (by rw [ha]; decide) (fun x h => by rw [TP_8 ha] at h; exact h) (fun x h => by rw [TP_8 ha]; exact h) rfl 1 (by decide) (hA _ hl) (fun _ h => h) rfl (ty := .int) (tyX5_ok 1 (by decide)) (rfl) (rfl) (fun j hj hne v hv => match j, hj, hne, v, hv with
      | 0, _, _, v, hv => hv
      | 1, _, hne, v, hv => absurd rfl hne
      | 2, _, _, v, hv => hv
      | 3, _, _, v, hv => hv
      | 4, _, _, v, hv => hv
      | 5, _, _, v, hv => hv
      | 6, _, _, v, hv => hv) ⟨x, rfl, (gs_self _ _ _ _).symm⟩ (fun b y hb h0 h => TP_gs (by show ((Γ b).1 == 8) = false; exact beq_eq_false_iff_ne.mpr (hU.one ha rfl hb)) h) hdg kk
theorem get_X5_2 (hx : p.tables.exec = Jvm.exec) (hb : c.code = cc) (hA : ∀ w ∈ AL, w.before args s = true) {own : String} {index : Nat} (hown : s.vm.findClass own = some m.cls) (hE : en dC dI dA sz s) (hG : ty_ok (dC, dI) vwCl Γ (TP dA Γ g) sz X H) (ha : (Γ a).1 = 8) (hl : Cond.fieldLink own index "WeekBank$RingSearch" "suits" "[I" ∈ AL) (hdg : decode cc pc = .ok (.getfield index, 3)) (kk : ∀ b : Nat, (Γ b).1 = 20 → W p l e R s m args below meth c H locs cells slots Q (F0 m (pc + 3) ls (.ref b :: rest))) : W p l e R s m args below meth c H locs cells slots Q (F0 m pc ls (.ref a :: rest)) := by
  refine ty_get (Tb := TX5) (C := RX5) (N := 7) (ci := 5) (F := F5 Γ g) hx hb hA in_X5 hown hE.1 hG (by rw [ha]; decide) (fun x h => by rw [TP_8 ha] at h; exact h) rfl 2 (by decide) (hA _ hl) (fun _ h => h) hdg (fun v hv => ?_)
  obtain ⟨b, rfl, h2⟩ := hv; exact kk b h2
theorem get_X5_3 (hx : p.tables.exec = Jvm.exec) (hb : c.code = cc) (hA : ∀ w ∈ AL, w.before args s = true) {own : String} {index : Nat} (hown : s.vm.findClass own = some m.cls) (hE : en dC dI dA sz s) (hG : ty_ok (dC, dI) vwCl Γ (TP dA Γ g) sz X H) (ha : (Γ a).1 = 8) (hl : Cond.fieldLink own index "WeekBank$RingSearch" "paths" "[I" ∈ AL) (hdg : decode cc pc = .ok (.getfield index, 3)) (kk : ∀ b : Nat, (Γ b).1 = 21 → W p l e R s m args below meth c H locs cells slots Q (F0 m (pc + 3) ls (.ref b :: rest))) : W p l e R s m args below meth c H locs cells slots Q (F0 m pc ls (.ref a :: rest)) := by
  refine ty_get (Tb := TX5) (C := RX5) (N := 7) (ci := 5) (F := F5 Γ g) hx hb hA in_X5 hown hE.1 hG (by rw [ha]; decide) (fun x h => by rw [TP_8 ha] at h; exact h) rfl 3 (by decide) (hA _ hl) (fun _ h => h) hdg (fun v hv => ?_)
  obtain ⟨b, rfl, h2⟩ := hv; exact kk b h2
theorem get_X5_4 (hx : p.tables.exec = Jvm.exec) (hb : c.code = cc) (hA : ∀ w ∈ AL, w.before args s = true) {own : String} {index : Nat} (hown : s.vm.findClass own = some m.cls) (hE : en dC dI dA sz s) (hG : ty_ok (dC, dI) vwCl Γ (TP dA Γ g) sz X H) (ha : (Γ a).1 = 8) (hl : Cond.fieldLink own index "WeekBank$RingSearch" "ringOf" "[I" ∈ AL) (hdg : decode cc pc = .ok (.getfield index, 3)) (kk : ∀ b : Nat, (Γ b).1 = 22 → W p l e R s m args below meth c H locs cells slots Q (F0 m (pc + 3) ls (.ref b :: rest))) : W p l e R s m args below meth c H locs cells slots Q (F0 m pc ls (.ref a :: rest)) := by
  refine ty_get (Tb := TX5) (C := RX5) (N := 7) (ci := 5) (F := F5 Γ g) hx hb hA in_X5 hown hE.1 hG (by rw [ha]; decide) (fun x h => by rw [TP_8 ha] at h; exact h) rfl 4 (by decide) (hA _ hl) (fun _ h => h) hdg (fun v hv => ?_)
  obtain ⟨b, rfl, h2⟩ := hv; exact kk b h2
theorem get_X5_5 (hx : p.tables.exec = Jvm.exec) (hb : c.code = cc) (hA : ∀ w ∈ AL, w.before args s = true) {own : String} {index : Nat} (hown : s.vm.findClass own = some m.cls) (hE : en dC dI dA sz s) (hG : ty_ok (dC, dI) vwCl Γ (TP dA Γ g) sz X H) (ha : (Γ a).1 = 8) (hl : Cond.fieldLink own index "WeekBank$RingSearch" "wayOf" "[I" ∈ AL) (hdg : decode cc pc = .ok (.getfield index, 3)) (kk : ∀ b : Nat, (Γ b).1 = 27 → W p l e R s m args below meth c H locs cells slots Q (F0 m (pc + 3) ls (.ref b :: rest))) : W p l e R s m args below meth c H locs cells slots Q (F0 m pc ls (.ref a :: rest)) := by
  refine ty_get (Tb := TX5) (C := RX5) (N := 7) (ci := 5) (F := F5 Γ g) hx hb hA in_X5 hown hE.1 hG (by rw [ha]; decide) (fun x h => by rw [TP_8 ha] at h; exact h) rfl 5 (by decide) (hA _ hl) (fun _ h => h) hdg (fun v hv => ?_)
  obtain ⟨b, rfl, h2⟩ := hv; exact kk b h2
theorem get_X5_6 (hx : p.tables.exec = Jvm.exec) (hb : c.code = cc) (hA : ∀ w ∈ AL, w.before args s = true) {own : String} {index : Nat} (hown : s.vm.findClass own = some m.cls) (hE : en dC dI dA sz s) (hG : ty_ok (dC, dI) vwCl Γ (TP dA Γ g) sz X H) (ha : (Γ a).1 = 8) (hl : Cond.fieldLink own index "WeekBank$RingSearch" "best" "I" ∈ AL) (hdg : decode cc pc = .ok (.getfield index, 3)) (kk : ∀ x : Int32, x.toInt = g 8 0 → W p l e R s m args below meth c H locs cells slots Q (F0 m (pc + 3) ls (.int x :: rest))) : W p l e R s m args below meth c H locs cells slots Q (F0 m pc ls (.ref a :: rest)) := by
  refine ty_get (Tb := TX5) (C := RX5) (N := 7) (ci := 5) (F := F5 Γ g) hx hb hA in_X5 hown hE.1 hG (by rw [ha]; decide) (fun x h => by rw [TP_8 ha] at h; exact h) rfl 6 (by decide) (hA _ hl) (fun _ h => h) hdg (fun v hv => ?_)
  obtain ⟨x, rfl, h2⟩ := hv; exact kk x h2
theorem put_X5_6 (hx : p.tables.exec = Jvm.exec) (hb : c.code = cc) (hA : ∀ w ∈ AL, w.before args s = true) {own : String} {index : Nat} (hown : s.vm.findClass own = some m.cls) (hE : en dC dI dA sz s) (hG : ty_ok (dC, dI) vwCl Γ (TP dA Γ g) sz X H) (hS0 : va_S (ty_A sz) H0 H locs) (hU : Un Γ) (ha : (Γ a).1 = 8) (hl : Cond.fieldLink own index "WeekBank$RingSearch" "best" "I" ∈ AL) {x : Int32} (hdg : decode cc pc = .ok (.putfield index, 3)) (kk : ∀ (H1 : Heap) (locs1 : List Loc), ty_ok (dC, dI) vwCl Γ (TP dA Γ (gs g 8 0 x.toInt)) sz X H1 → va_S (ty_A sz) H0 H1 locs1 → W p l e R s m args below meth c H1 locs1 cells slots Q (F0 m (pc + 3) ls rest)) : W p l e R s m args below meth c H locs cells slots Q (F0 m pc ls (.int x :: .ref a :: rest)) :=
  ty_putG (T' := TP dA Γ (gs g 8 0 x.toInt)) (Tb := TX5) (C := RX5) (N := 7) (ci := 5) (F := F5 Γ g) (F' := F5 Γ (gs g 8 0 x.toInt)) hx hb hA in_X5 tyX5 tyX5_ok nmX5 hown hE.1 hG hS0 (by rw [ha]; decide) (fun x h => by rw [TP_8 ha] at h; exact h) (fun x h => by rw [TP_8 ha]; exact h) rfl 6 (by decide) (hA _ hl) (fun _ h => h) rfl (ty := .int) (tyX5_ok 6 (by decide)) (rfl) (rfl) (fun j hj hne v hv => match j, hj, hne, v, hv with
      | 0, _, _, v, hv => hv
      | 1, _, _, v, hv => hv
      | 2, _, _, v, hv => hv
      | 3, _, _, v, hv => hv
      | 4, _, _, v, hv => hv
      | 5, _, _, v, hv => hv
      | 6, _, hne, v, hv => absurd rfl hne) ⟨x, rfl, (gs_self _ _ _ _).symm⟩ (fun b y hb h0 h => TP_gs (by show ((Γ b).1 == 8) = false; exact beq_eq_false_iff_ne.mpr (hU.one ha rfl hb)) h) hdg kk
theorem get_X6_0 {i : Nat} (hx : p.tables.exec = Jvm.exec) (hb : c.code = cc) (hA : ∀ w ∈ AL, w.before args s = true) {own : String} {index : Nat} (hown : s.vm.findClass own = some m.cls) (hE : en dC dI dA sz s) (hG : ty_ok (dC, dI) vwCl Γ (TP dA Γ g) sz X H) (ha : Γ a = (6, i)) (hl : Cond.fieldLink own index "WeekBank$Rules" "season" "[I" ∈ AL) (hdg : decode cc pc = .ok (.getfield index, 3)) (kk : ∀ b : Nat, Γ b = (16, i) → W p l e R s m args below meth c H locs cells slots Q (F0 m (pc + 3) ls (.ref b :: rest))) : W p l e R s m args below meth c H locs cells slots Q (F0 m pc ls (.ref a :: rest)) := by
  refine ty_get (Tb := TX6) (C := RX6) (N := 5) (ci := 6) (F := F6 Γ g i) hx hb hA in_X6 hown hE.1 hG (by rw [(by rw [ha] : (Γ a).1 = 6)]; decide) (fun x h => by rw [TP_6 (by rw [ha] : (Γ a).1 = 6)] at h; rw [show (Γ a).2 = i by rw [ha]] at h; exact h) rfl 0 (by decide) (hA _ hl) (fun _ h => h) hdg (fun v hv => ?_)
  obtain ⟨b, rfl, h2⟩ := hv; exact kk b h2
theorem get_X6_1 {i : Nat} (hx : p.tables.exec = Jvm.exec) (hb : c.code = cc) (hA : ∀ w ∈ AL, w.before args s = true) {own : String} {index : Nat} (hown : s.vm.findClass own = some m.cls) (hE : en dC dI dA sz s) (hG : ty_ok (dC, dI) vwCl Γ (TP dA Γ g) sz X H) (ha : Γ a = (6, i)) (hl : Cond.fieldLink own index "WeekBank$Rules" "sizeAdds" "[I" ∈ AL) (hdg : decode cc pc = .ok (.getfield index, 3)) (kk : ∀ b : Nat, Γ b = (17, i) → W p l e R s m args below meth c H locs cells slots Q (F0 m (pc + 3) ls (.ref b :: rest))) : W p l e R s m args below meth c H locs cells slots Q (F0 m pc ls (.ref a :: rest)) := by
  refine ty_get (Tb := TX6) (C := RX6) (N := 5) (ci := 6) (F := F6 Γ g i) hx hb hA in_X6 hown hE.1 hG (by rw [(by rw [ha] : (Γ a).1 = 6)]; decide) (fun x h => by rw [TP_6 (by rw [ha] : (Γ a).1 = 6)] at h; rw [show (Γ a).2 = i by rw [ha]] at h; exact h) rfl 1 (by decide) (hA _ hl) (fun _ h => h) hdg (fun v hv => ?_)
  obtain ⟨b, rfl, h2⟩ := hv; exact kk b h2
theorem get_X6_2 {i : Nat} (hx : p.tables.exec = Jvm.exec) (hb : c.code = cc) (hA : ∀ w ∈ AL, w.before args s = true) {own : String} {index : Nat} (hown : s.vm.findClass own = some m.cls) (hE : en dC dI dA sz s) (hG : ty_ok (dC, dI) vwCl Γ (TP dA Γ g) sz X H) (ha : Γ a = (6, i)) (hl : Cond.fieldLink own index "WeekBank$Rules" "earlyAdds" "[I" ∈ AL) (hdg : decode cc pc = .ok (.getfield index, 3)) (kk : ∀ b : Nat, Γ b = (26, i) → W p l e R s m args below meth c H locs cells slots Q (F0 m (pc + 3) ls (.ref b :: rest))) : W p l e R s m args below meth c H locs cells slots Q (F0 m pc ls (.ref a :: rest)) := by
  refine ty_get (Tb := TX6) (C := RX6) (N := 5) (ci := 6) (F := F6 Γ g i) hx hb hA in_X6 hown hE.1 hG (by rw [(by rw [ha] : (Γ a).1 = 6)]; decide) (fun x h => by rw [TP_6 (by rw [ha] : (Γ a).1 = 6)] at h; rw [show (Γ a).2 = i by rw [ha]] at h; exact h) rfl 2 (by decide) (hA _ hl) (fun _ h => h) hdg (fun v hv => ?_)
  obtain ⟨b, rfl, h2⟩ := hv; exact kk b h2
theorem get_X6_3 {i : Nat} (hx : p.tables.exec = Jvm.exec) (hb : c.code = cc) (hA : ∀ w ∈ AL, w.before args s = true) {own : String} {index : Nat} (hown : s.vm.findClass own = some m.cls) (hE : en dC dI dA sz s) (hG : ty_ok (dC, dI) vwCl Γ (TP dA Γ g) sz X H) (ha : Γ a = (6, i)) (hl : Cond.fieldLink own index "WeekBank$Rules" "heirsAreBound" "Z" ∈ AL) (hdg : decode cc pc = .ok (.getfield index, 3)) (kk : ∀ x : Int32, x.toInt = g 11 i → (x.toInt = 0 ∨ x.toInt = 1) → W p l e R s m args below meth c H locs cells slots Q (F0 m (pc + 3) ls (.int x :: rest))) : W p l e R s m args below meth c H locs cells slots Q (F0 m pc ls (.ref a :: rest)) := by
  refine ty_get (Tb := TX6) (C := RX6) (N := 5) (ci := 6) (F := F6 Γ g i) hx hb hA in_X6 hown hE.1 hG (by rw [(by rw [ha] : (Γ a).1 = 6)]; decide) (fun x h => by rw [TP_6 (by rw [ha] : (Γ a).1 = 6)] at h; rw [show (Γ a).2 = i by rw [ha]] at h; exact h) rfl 3 (by decide) (hA _ hl) (fun _ h => h) hdg (fun v hv => ?_)
  obtain ⟨x, rfl, h2, h3⟩ := hv; exact kk x h2 h3
theorem put_X6_3 {i : Nat} (hx : p.tables.exec = Jvm.exec) (hb : c.code = cc) (hA : ∀ w ∈ AL, w.before args s = true) {own : String} {index : Nat} (hown : s.vm.findClass own = some m.cls) (hE : en dC dI dA sz s) (hG : ty_ok (dC, dI) vwCl Γ (TP dA Γ g) sz X H) (hS0 : va_S (ty_A sz) H0 H locs) (hU : Un Γ) (ha : Γ a = (6, i)) (hl : Cond.fieldLink own index "WeekBank$Rules" "heirsAreBound" "Z" ∈ AL) {x : Int32} (h01 : x.toInt = 0 ∨ x.toInt = 1) (hdg : decode cc pc = .ok (.putfield index, 3)) (kk : ∀ (H1 : Heap) (locs1 : List Loc), ty_ok (dC, dI) vwCl Γ (TP dA Γ (gs g 11 i x.toInt)) sz X H1 → va_S (ty_A sz) H0 H1 locs1 → W p l e R s m args below meth c H1 locs1 cells slots Q (F0 m (pc + 3) ls rest)) : W p l e R s m args below meth c H locs cells slots Q (F0 m pc ls (.int x :: .ref a :: rest)) :=
  ty_putG (T' := TP dA Γ (gs g 11 i x.toInt)) (Tb := TX6) (C := RX6) (N := 5) (ci := 6) (F := F6 Γ g i) (F' := F6 Γ (gs g 11 i x.toInt) i) hx hb hA in_X6 tyX6 tyX6_ok nmX6 hown hE.1 hG hS0 (by rw [(by rw [ha] : (Γ a).1 = 6)]; decide) (fun x h => by rw [TP_6 (by rw [ha] : (Γ a).1 = 6)] at h; rw [show (Γ a).2 = i by rw [ha]] at h; exact h) (fun x h => by rw [TP_6 (by rw [ha] : (Γ a).1 = 6)]; rw [show (Γ a).2 = i by rw [ha]]; exact h) rfl 3 (by decide) (hA _ hl) (fun _ h => h) rfl (ty := .boolean) (tyX6_ok 3 (by decide)) ((ty_nb h01).1) ((ty_nb h01).2.1) (fun j hj hne v hv => match j, hj, hne, v, hv with
      | 0, _, _, v, hv => hv
      | 1, _, _, v, hv => hv
      | 2, _, _, v, hv => hv
      | 3, _, hne, v, hv => absurd rfl hne
      | 4, _, _, v, hv => hv) ⟨x, rfl, (gs_self _ _ _ _).symm, h01⟩ (fun b y hb h0 h => TP_gs (by show ((Γ b).1 == 6 && (Γ b).2 == i) = false; have := hU.two ha rfl hb; rw [Bool.and_eq_false_iff]; by_cases e1 : (Γ b).1 = 6; exact Or.inr (beq_eq_false_iff_ne.mpr (fun e2 => this (Prod.ext e1 e2))); exact Or.inl (beq_eq_false_iff_ne.mpr e1)) h) hdg kk
theorem get_X6_4 {i : Nat} (hx : p.tables.exec = Jvm.exec) (hb : c.code = cc) (hA : ∀ w ∈ AL, w.before args s = true) {own : String} {index : Nat} (hown : s.vm.findClass own = some m.cls) (hE : en dC dI dA sz s) (hG : ty_ok (dC, dI) vwCl Γ (TP dA Γ g) sz X H) (ha : Γ a = (6, i)) (hl : Cond.fieldLink own index "WeekBank$Rules" "statements" "I" ∈ AL) (hdg : decode cc pc = .ok (.getfield index, 3)) (kk : ∀ x : Int32, x.toInt = g 10 i → W p l e R s m args below meth c H locs cells slots Q (F0 m (pc + 3) ls (.int x :: rest))) : W p l e R s m args below meth c H locs cells slots Q (F0 m pc ls (.ref a :: rest)) := by
  refine ty_get (Tb := TX6) (C := RX6) (N := 5) (ci := 6) (F := F6 Γ g i) hx hb hA in_X6 hown hE.1 hG (by rw [(by rw [ha] : (Γ a).1 = 6)]; decide) (fun x h => by rw [TP_6 (by rw [ha] : (Γ a).1 = 6)] at h; rw [show (Γ a).2 = i by rw [ha]] at h; exact h) rfl 4 (by decide) (hA _ hl) (fun _ h => h) hdg (fun v hv => ?_)
  obtain ⟨x, rfl, h2⟩ := hv; exact kk x h2
theorem put_X6_4 {i : Nat} (hx : p.tables.exec = Jvm.exec) (hb : c.code = cc) (hA : ∀ w ∈ AL, w.before args s = true) {own : String} {index : Nat} (hown : s.vm.findClass own = some m.cls) (hE : en dC dI dA sz s) (hG : ty_ok (dC, dI) vwCl Γ (TP dA Γ g) sz X H) (hS0 : va_S (ty_A sz) H0 H locs) (hU : Un Γ) (ha : Γ a = (6, i)) (hl : Cond.fieldLink own index "WeekBank$Rules" "statements" "I" ∈ AL) {x : Int32} (hdg : decode cc pc = .ok (.putfield index, 3)) (kk : ∀ (H1 : Heap) (locs1 : List Loc), ty_ok (dC, dI) vwCl Γ (TP dA Γ (gs g 10 i x.toInt)) sz X H1 → va_S (ty_A sz) H0 H1 locs1 → W p l e R s m args below meth c H1 locs1 cells slots Q (F0 m (pc + 3) ls rest)) : W p l e R s m args below meth c H locs cells slots Q (F0 m pc ls (.int x :: .ref a :: rest)) :=
  ty_putG (T' := TP dA Γ (gs g 10 i x.toInt)) (Tb := TX6) (C := RX6) (N := 5) (ci := 6) (F := F6 Γ g i) (F' := F6 Γ (gs g 10 i x.toInt) i) hx hb hA in_X6 tyX6 tyX6_ok nmX6 hown hE.1 hG hS0 (by rw [(by rw [ha] : (Γ a).1 = 6)]; decide) (fun x h => by rw [TP_6 (by rw [ha] : (Γ a).1 = 6)] at h; rw [show (Γ a).2 = i by rw [ha]] at h; exact h) (fun x h => by rw [TP_6 (by rw [ha] : (Γ a).1 = 6)]; rw [show (Γ a).2 = i by rw [ha]]; exact h) rfl 4 (by decide) (hA _ hl) (fun _ h => h) rfl (ty := .int) (tyX6_ok 4 (by decide)) (rfl) (rfl) (fun j hj hne v hv => match j, hj, hne, v, hv with
      | 0, _, _, v, hv => hv
      | 1, _, _, v, hv => hv
      | 2, _, _, v, hv => hv
      | 3, _, _, v, hv => hv
      | 4, _, hne, v, hv => absurd rfl hne) ⟨x, rfl, (gs_self _ _ _ _).symm⟩ (fun b y hb h0 h => TP_gs (by show ((Γ b).1 == 6 && (Γ b).2 == i) = false; have := hU.two ha rfl hb; rw [Bool.and_eq_false_iff]; by_cases e1 : (Γ b).1 = 6; exact Or.inr (beq_eq_false_iff_ne.mpr (fun e2 => this (Prod.ext e1 e2))); exact Or.inl (beq_eq_false_iff_ne.mpr e1)) h) hdg kk
theorem get_X7_0 {i : Nat} (hx : p.tables.exec = Jvm.exec) (hb : c.code = cc) (hA : ∀ w ∈ AL, w.before args s = true) {own : String} {index : Nat} (hown : s.vm.findClass own = some m.cls) (hE : en dC dI dA sz s) (hG : ty_ok (dC, dI) vwCl Γ (TP dA Γ g) sz X H) (ha : Γ a = (5, i)) (hl : Cond.fieldLink own index "WeekBank$Wish" "town" "I" ∈ AL) (hdg : decode cc pc = .ok (.getfield index, 3)) (kk : ∀ x : Int32, x.toInt = wz_t i → W p l e R s m args below meth c H locs cells slots Q (F0 m (pc + 3) ls (.int x :: rest))) : W p l e R s m args below meth c H locs cells slots Q (F0 m pc ls (.ref a :: rest)) := by
  refine ty_get (Tb := TX7) (C := RX7) (N := 4) (ci := 7) (F := F7 i) hx hb hA in_X7 hown hE.1 hG (by rw [(by rw [ha] : (Γ a).1 = 5)]; decide) (fun x h => by rw [TP_5 (by rw [ha] : (Γ a).1 = 5)] at h; rw [show (Γ a).2 = i by rw [ha]] at h; exact h) rfl 0 (by decide) (hA _ hl) (fun _ h => h) hdg (fun v hv => ?_)
  obtain ⟨x, rfl, h2⟩ := hv; exact kk x h2
theorem get_X7_1 {i : Nat} (hx : p.tables.exec = Jvm.exec) (hb : c.code = cc) (hA : ∀ w ∈ AL, w.before args s = true) {own : String} {index : Nat} (hown : s.vm.findClass own = some m.cls) (hE : en dC dI dA sz s) (hG : ty_ok (dC, dI) vwCl Γ (TP dA Γ g) sz X H) (ha : Γ a = (5, i)) (hl : Cond.fieldLink own index "WeekBank$Wish" "from" "I" ∈ AL) (hdg : decode cc pc = .ok (.getfield index, 3)) (kk : ∀ x : Int32, x.toInt = wz_f i → W p l e R s m args below meth c H locs cells slots Q (F0 m (pc + 3) ls (.int x :: rest))) : W p l e R s m args below meth c H locs cells slots Q (F0 m pc ls (.ref a :: rest)) := by
  refine ty_get (Tb := TX7) (C := RX7) (N := 4) (ci := 7) (F := F7 i) hx hb hA in_X7 hown hE.1 hG (by rw [(by rw [ha] : (Γ a).1 = 5)]; decide) (fun x h => by rw [TP_5 (by rw [ha] : (Γ a).1 = 5)] at h; rw [show (Γ a).2 = i by rw [ha]] at h; exact h) rfl 1 (by decide) (hA _ hl) (fun _ h => h) hdg (fun v hv => ?_)
  obtain ⟨x, rfl, h2⟩ := hv; exact kk x h2
theorem get_X7_2 {i : Nat} (hx : p.tables.exec = Jvm.exec) (hb : c.code = cc) (hA : ∀ w ∈ AL, w.before args s = true) {own : String} {index : Nat} (hown : s.vm.findClass own = some m.cls) (hE : en dC dI dA sz s) (hG : ty_ok (dC, dI) vwCl Γ (TP dA Γ g) sz X H) (ha : Γ a = (5, i)) (hl : Cond.fieldLink own index "WeekBank$Wish" "to" "I" ∈ AL) (hdg : decode cc pc = .ok (.getfield index, 3)) (kk : ∀ x : Int32, x.toInt = wz_o i → W p l e R s m args below meth c H locs cells slots Q (F0 m (pc + 3) ls (.int x :: rest))) : W p l e R s m args below meth c H locs cells slots Q (F0 m pc ls (.ref a :: rest)) := by
  refine ty_get (Tb := TX7) (C := RX7) (N := 4) (ci := 7) (F := F7 i) hx hb hA in_X7 hown hE.1 hG (by rw [(by rw [ha] : (Γ a).1 = 5)]; decide) (fun x h => by rw [TP_5 (by rw [ha] : (Γ a).1 = 5)] at h; rw [show (Γ a).2 = i by rw [ha]] at h; exact h) rfl 2 (by decide) (hA _ hl) (fun _ h => h) hdg (fun v hv => ?_)
  obtain ⟨x, rfl, h2⟩ := hv; exact kk x h2
theorem get_X7_3 {i : Nat} (hx : p.tables.exec = Jvm.exec) (hb : c.code = cc) (hA : ∀ w ∈ AL, w.before args s = true) {own : String} {index : Nat} (hown : s.vm.findClass own = some m.cls) (hE : en dC dI dA sz s) (hG : ty_ok (dC, dI) vwCl Γ (TP dA Γ g) sz X H) (ha : Γ a = (5, i)) (hl : Cond.fieldLink own index "WeekBank$Wish" "leastSize" "I" ∈ AL) (hdg : decode cc pc = .ok (.getfield index, 3)) (kk : ∀ x : Int32, x.toInt = wz_s i → W p l e R s m args below meth c H locs cells slots Q (F0 m (pc + 3) ls (.int x :: rest))) : W p l e R s m args below meth c H locs cells slots Q (F0 m pc ls (.ref a :: rest)) := by
  refine ty_get (Tb := TX7) (C := RX7) (N := 4) (ci := 7) (F := F7 i) hx hb hA in_X7 hown hE.1 hG (by rw [(by rw [ha] : (Γ a).1 = 5)]; decide) (fun x h => by rw [TP_5 (by rw [ha] : (Γ a).1 = 5)] at h; rw [show (Γ a).2 = i by rw [ha]] at h; exact h) rfl 3 (by decide) (hA _ hl) (fun _ h => h) hdg (fun v hv => ?_)
  obtain ⟨x, rfl, h2⟩ := hv; exact kk x h2
theorem get_X8_0 (hx : p.tables.exec = Jvm.exec) (hb : c.code = cc) (hA : ∀ w ∈ AL, w.before args s = true) {own : String} {index : Nat} (hown : s.vm.findClass own = some m.cls) (hE : en dC dI dA sz s) (hG : ty_ok (dC, dI) vwCl Γ (TP dA Γ g) sz X H) (ha : (Γ a).1 = 1) (hl : Cond.fieldLink own index "WeekBank" "flats" "[LWeekBank$Flat;" ∈ AL) (hdg : decode cc pc = .ok (.getfield index, 3)) (kk : ∀ b : Nat, (Γ b).1 = 10 → W p l e R s m args below meth c H locs cells slots Q (F0 m (pc + 3) ls (.ref b :: rest))) : W p l e R s m args below meth c H locs cells slots Q (F0 m pc ls (.ref a :: rest)) := by
  refine ty_get (Tb := TX8) (C := RX8) (N := 13) (ci := 8) (F := F8 Γ g) hx hb hA in_X8 hown hE.1 hG (by rw [ha]; decide) (fun x h => by rw [TP_1 ha] at h; exact h) rfl 0 (by decide) (hA _ hl) (fun _ h => h) hdg (fun v hv => ?_)
  obtain ⟨b, rfl, h2⟩ := hv; exact kk b h2
theorem get_X8_1 (hx : p.tables.exec = Jvm.exec) (hb : c.code = cc) (hA : ∀ w ∈ AL, w.before args s = true) {own : String} {index : Nat} (hown : s.vm.findClass own = some m.cls) (hE : en dC dI dA sz s) (hG : ty_ok (dC, dI) vwCl Γ (TP dA Γ g) sz X H) (ha : (Γ a).1 = 1) (hl : Cond.fieldLink own index "WeekBank" "flatCount" "I" ∈ AL) (hdg : decode cc pc = .ok (.getfield index, 3)) (kk : ∀ x : Int32, x.toInt = g 1 0 → W p l e R s m args below meth c H locs cells slots Q (F0 m (pc + 3) ls (.int x :: rest))) : W p l e R s m args below meth c H locs cells slots Q (F0 m pc ls (.ref a :: rest)) := by
  refine ty_get (Tb := TX8) (C := RX8) (N := 13) (ci := 8) (F := F8 Γ g) hx hb hA in_X8 hown hE.1 hG (by rw [ha]; decide) (fun x h => by rw [TP_1 ha] at h; exact h) rfl 1 (by decide) (hA _ hl) (fun _ h => h) hdg (fun v hv => ?_)
  obtain ⟨x, rfl, h2⟩ := hv; exact kk x h2
theorem put_X8_1 (hx : p.tables.exec = Jvm.exec) (hb : c.code = cc) (hA : ∀ w ∈ AL, w.before args s = true) {own : String} {index : Nat} (hown : s.vm.findClass own = some m.cls) (hE : en dC dI dA sz s) (hG : ty_ok (dC, dI) vwCl Γ (TP dA Γ g) sz X H) (hS0 : va_S (ty_A sz) H0 H locs) (hU : Un Γ) (ha : (Γ a).1 = 1) (hl : Cond.fieldLink own index "WeekBank" "flatCount" "I" ∈ AL) {x : Int32} (hdg : decode cc pc = .ok (.putfield index, 3)) (kk : ∀ (H1 : Heap) (locs1 : List Loc), ty_ok (dC, dI) vwCl Γ (TP dA Γ (gs g 1 0 x.toInt)) sz X H1 → va_S (ty_A sz) H0 H1 locs1 → W p l e R s m args below meth c H1 locs1 cells slots Q (F0 m (pc + 3) ls rest)) : W p l e R s m args below meth c H locs cells slots Q (F0 m pc ls (.int x :: .ref a :: rest)) :=
  ty_putG (T' := TP dA Γ (gs g 1 0 x.toInt)) (Tb := TX8) (C := RX8) (N := 13) (ci := 8) (F := F8 Γ g) (F' := F8 Γ (gs g 1 0 x.toInt)) hx hb hA in_X8 tyX8 tyX8_ok nmX8 hown hE.1 hG hS0 (by rw [ha]; decide) (fun x h => by rw [TP_1 ha] at h; exact h) (fun x h => by rw [TP_1 ha]; exact h) rfl 1 (by decide) (hA _ hl) (fun _ h => h) rfl (ty := .int) (tyX8_ok 1 (by decide)) (rfl) (rfl) (fun j hj hne v hv => match j, hj, hne, v, hv with
      | 0, _, _, v, hv => hv
      | 1, _, hne, v, hv => absurd rfl hne
      | 2, _, _, v, hv => hv
      | 3, _, _, v, hv => hv
      | 4, _, _, v, hv => hv
      | 5, _, _, v, hv => hv
      | 6, _, _, v, hv => hv
      | 7, _, _, v, hv => hv
      | 8, _, _, v, hv => hv
      | 9, _, _, v, hv => hv
      | 10, _, _, v, hv => hv
      | 11, _, _, v, hv => hv
      | 12, _, _, v, hv => hv) ⟨x, rfl, (gs_self _ _ _ _).symm⟩ (fun b y hb h0 h => TP_gs (by show ((Γ b).1 == 1) = false; exact beq_eq_false_iff_ne.mpr (hU.one ha rfl hb)) h) hdg kk
theorem get_X8_2 (hx : p.tables.exec = Jvm.exec) (hb : c.code = cc) (hA : ∀ w ∈ AL, w.before args s = true) {own : String} {index : Nat} (hown : s.vm.findClass own = some m.cls) (hE : en dC dI dA sz s) (hG : ty_ok (dC, dI) vwCl Γ (TP dA Γ g) sz X H) (ha : (Γ a).1 = 1) (hl : Cond.fieldLink own index "WeekBank" "owners" "[LWeekBank$Owner;" ∈ AL) (hdg : decode cc pc = .ok (.getfield index, 3)) (kk : ∀ b : Nat, (Γ b).1 = 11 → W p l e R s m args below meth c H locs cells slots Q (F0 m (pc + 3) ls (.ref b :: rest))) : W p l e R s m args below meth c H locs cells slots Q (F0 m pc ls (.ref a :: rest)) := by
  refine ty_get (Tb := TX8) (C := RX8) (N := 13) (ci := 8) (F := F8 Γ g) hx hb hA in_X8 hown hE.1 hG (by rw [ha]; decide) (fun x h => by rw [TP_1 ha] at h; exact h) rfl 2 (by decide) (hA _ hl) (fun _ h => h) hdg (fun v hv => ?_)
  obtain ⟨b, rfl, h2⟩ := hv; exact kk b h2
theorem get_X8_3 (hx : p.tables.exec = Jvm.exec) (hb : c.code = cc) (hA : ∀ w ∈ AL, w.before args s = true) {own : String} {index : Nat} (hown : s.vm.findClass own = some m.cls) (hE : en dC dI dA sz s) (hG : ty_ok (dC, dI) vwCl Γ (TP dA Γ g) sz X H) (ha : (Γ a).1 = 1) (hl : Cond.fieldLink own index "WeekBank" "ownerCount" "I" ∈ AL) (hdg : decode cc pc = .ok (.getfield index, 3)) (kk : ∀ x : Int32, x.toInt = g 2 0 → W p l e R s m args below meth c H locs cells slots Q (F0 m (pc + 3) ls (.int x :: rest))) : W p l e R s m args below meth c H locs cells slots Q (F0 m pc ls (.ref a :: rest)) := by
  refine ty_get (Tb := TX8) (C := RX8) (N := 13) (ci := 8) (F := F8 Γ g) hx hb hA in_X8 hown hE.1 hG (by rw [ha]; decide) (fun x h => by rw [TP_1 ha] at h; exact h) rfl 3 (by decide) (hA _ hl) (fun _ h => h) hdg (fun v hv => ?_)
  obtain ⟨x, rfl, h2⟩ := hv; exact kk x h2
theorem put_X8_3 (hx : p.tables.exec = Jvm.exec) (hb : c.code = cc) (hA : ∀ w ∈ AL, w.before args s = true) {own : String} {index : Nat} (hown : s.vm.findClass own = some m.cls) (hE : en dC dI dA sz s) (hG : ty_ok (dC, dI) vwCl Γ (TP dA Γ g) sz X H) (hS0 : va_S (ty_A sz) H0 H locs) (hU : Un Γ) (ha : (Γ a).1 = 1) (hl : Cond.fieldLink own index "WeekBank" "ownerCount" "I" ∈ AL) {x : Int32} (hdg : decode cc pc = .ok (.putfield index, 3)) (kk : ∀ (H1 : Heap) (locs1 : List Loc), ty_ok (dC, dI) vwCl Γ (TP dA Γ (gs g 2 0 x.toInt)) sz X H1 → va_S (ty_A sz) H0 H1 locs1 → W p l e R s m args below meth c H1 locs1 cells slots Q (F0 m (pc + 3) ls rest)) : W p l e R s m args below meth c H locs cells slots Q (F0 m pc ls (.int x :: .ref a :: rest)) :=
  ty_putG (T' := TP dA Γ (gs g 2 0 x.toInt)) (Tb := TX8) (C := RX8) (N := 13) (ci := 8) (F := F8 Γ g) (F' := F8 Γ (gs g 2 0 x.toInt)) hx hb hA in_X8 tyX8 tyX8_ok nmX8 hown hE.1 hG hS0 (by rw [ha]; decide) (fun x h => by rw [TP_1 ha] at h; exact h) (fun x h => by rw [TP_1 ha]; exact h) rfl 3 (by decide) (hA _ hl) (fun _ h => h) rfl (ty := .int) (tyX8_ok 3 (by decide)) (rfl) (rfl) (fun j hj hne v hv => match j, hj, hne, v, hv with
      | 0, _, _, v, hv => hv
      | 1, _, _, v, hv => hv
      | 2, _, _, v, hv => hv
      | 3, _, hne, v, hv => absurd rfl hne
      | 4, _, _, v, hv => hv
      | 5, _, _, v, hv => hv
      | 6, _, _, v, hv => hv
      | 7, _, _, v, hv => hv
      | 8, _, _, v, hv => hv
      | 9, _, _, v, hv => hv
      | 10, _, _, v, hv => hv
      | 11, _, _, v, hv => hv
      | 12, _, _, v, hv => hv) ⟨x, rfl, (gs_self _ _ _ _).symm⟩ (fun b y hb h0 h => TP_gs (by show ((Γ b).1 == 1) = false; exact beq_eq_false_iff_ne.mpr (hU.one ha rfl hb)) h) hdg kk
theorem get_X8_4 (hx : p.tables.exec = Jvm.exec) (hb : c.code = cc) (hA : ∀ w ∈ AL, w.before args s = true) {own : String} {index : Nat} (hown : s.vm.findClass own = some m.cls) (hE : en dC dI dA sz s) (hG : ty_ok (dC, dI) vwCl Γ (TP dA Γ g) sz X H) (ha : (Γ a).1 = 1) (hl : Cond.fieldLink own index "WeekBank" "gifts" "[LWeekBank$Gift;" ∈ AL) (hdg : decode cc pc = .ok (.getfield index, 3)) (kk : ∀ b : Nat, (Γ b).1 = 12 → W p l e R s m args below meth c H locs cells slots Q (F0 m (pc + 3) ls (.ref b :: rest))) : W p l e R s m args below meth c H locs cells slots Q (F0 m pc ls (.ref a :: rest)) := by
  refine ty_get (Tb := TX8) (C := RX8) (N := 13) (ci := 8) (F := F8 Γ g) hx hb hA in_X8 hown hE.1 hG (by rw [ha]; decide) (fun x h => by rw [TP_1 ha] at h; exact h) rfl 4 (by decide) (hA _ hl) (fun _ h => h) hdg (fun v hv => ?_)
  obtain ⟨b, rfl, h2⟩ := hv; exact kk b h2
theorem get_X8_5 (hx : p.tables.exec = Jvm.exec) (hb : c.code = cc) (hA : ∀ w ∈ AL, w.before args s = true) {own : String} {index : Nat} (hown : s.vm.findClass own = some m.cls) (hE : en dC dI dA sz s) (hG : ty_ok (dC, dI) vwCl Γ (TP dA Γ g) sz X H) (ha : (Γ a).1 = 1) (hl : Cond.fieldLink own index "WeekBank" "giftCount" "I" ∈ AL) (hdg : decode cc pc = .ok (.getfield index, 3)) (kk : ∀ x : Int32, x.toInt = g 3 0 → W p l e R s m args below meth c H locs cells slots Q (F0 m (pc + 3) ls (.int x :: rest))) : W p l e R s m args below meth c H locs cells slots Q (F0 m pc ls (.ref a :: rest)) := by
  refine ty_get (Tb := TX8) (C := RX8) (N := 13) (ci := 8) (F := F8 Γ g) hx hb hA in_X8 hown hE.1 hG (by rw [ha]; decide) (fun x h => by rw [TP_1 ha] at h; exact h) rfl 5 (by decide) (hA _ hl) (fun _ h => h) hdg (fun v hv => ?_)
  obtain ⟨x, rfl, h2⟩ := hv; exact kk x h2
theorem put_X8_5 (hx : p.tables.exec = Jvm.exec) (hb : c.code = cc) (hA : ∀ w ∈ AL, w.before args s = true) {own : String} {index : Nat} (hown : s.vm.findClass own = some m.cls) (hE : en dC dI dA sz s) (hG : ty_ok (dC, dI) vwCl Γ (TP dA Γ g) sz X H) (hS0 : va_S (ty_A sz) H0 H locs) (hU : Un Γ) (ha : (Γ a).1 = 1) (hl : Cond.fieldLink own index "WeekBank" "giftCount" "I" ∈ AL) {x : Int32} (hdg : decode cc pc = .ok (.putfield index, 3)) (kk : ∀ (H1 : Heap) (locs1 : List Loc), ty_ok (dC, dI) vwCl Γ (TP dA Γ (gs g 3 0 x.toInt)) sz X H1 → va_S (ty_A sz) H0 H1 locs1 → W p l e R s m args below meth c H1 locs1 cells slots Q (F0 m (pc + 3) ls rest)) : W p l e R s m args below meth c H locs cells slots Q (F0 m pc ls (.int x :: .ref a :: rest)) :=
  ty_putG (T' := TP dA Γ (gs g 3 0 x.toInt)) (Tb := TX8) (C := RX8) (N := 13) (ci := 8) (F := F8 Γ g) (F' := F8 Γ (gs g 3 0 x.toInt)) hx hb hA in_X8 tyX8 tyX8_ok nmX8 hown hE.1 hG hS0 (by rw [ha]; decide) (fun x h => by rw [TP_1 ha] at h; exact h) (fun x h => by rw [TP_1 ha]; exact h) rfl 5 (by decide) (hA _ hl) (fun _ h => h) rfl (ty := .int) (tyX8_ok 5 (by decide)) (rfl) (rfl) (fun j hj hne v hv => match j, hj, hne, v, hv with
      | 0, _, _, v, hv => hv
      | 1, _, _, v, hv => hv
      | 2, _, _, v, hv => hv
      | 3, _, _, v, hv => hv
      | 4, _, _, v, hv => hv
      | 5, _, hne, v, hv => absurd rfl hne
      | 6, _, _, v, hv => hv
      | 7, _, _, v, hv => hv
      | 8, _, _, v, hv => hv
      | 9, _, _, v, hv => hv
      | 10, _, _, v, hv => hv
      | 11, _, _, v, hv => hv
      | 12, _, _, v, hv => hv) ⟨x, rfl, (gs_self _ _ _ _).symm⟩ (fun b y hb h0 h => TP_gs (by show ((Γ b).1 == 1) = false; exact beq_eq_false_iff_ne.mpr (hU.one ha rfl hb)) h) hdg kk
theorem get_X8_6 (hx : p.tables.exec = Jvm.exec) (hb : c.code = cc) (hA : ∀ w ∈ AL, w.before args s = true) {own : String} {index : Nat} (hown : s.vm.findClass own = some m.cls) (hE : en dC dI dA sz s) (hG : ty_ok (dC, dI) vwCl Γ (TP dA Γ g) sz X H) (ha : (Γ a).1 = 1) (hl : Cond.fieldLink own index "WeekBank" "reader" "LWeekBank$Reader;" ∈ AL) (hdg : decode cc pc = .ok (.getfield index, 3)) (kk : ∀ b : Nat, (Γ b).1 = 7 → W p l e R s m args below meth c H locs cells slots Q (F0 m (pc + 3) ls (.ref b :: rest))) : W p l e R s m args below meth c H locs cells slots Q (F0 m pc ls (.ref a :: rest)) := by
  refine ty_get (Tb := TX8) (C := RX8) (N := 13) (ci := 8) (F := F8 Γ g) hx hb hA in_X8 hown hE.1 hG (by rw [ha]; decide) (fun x h => by rw [TP_1 ha] at h; exact h) rfl 6 (by decide) (hA _ hl) (fun _ h => h) hdg (fun v hv => ?_)
  obtain ⟨b, rfl, h2⟩ := hv; exact kk b h2
theorem get_X8_7 (hx : p.tables.exec = Jvm.exec) (hb : c.code = cc) (hA : ∀ w ∈ AL, w.before args s = true) {own : String} {index : Nat} (hown : s.vm.findClass own = some m.cls) (hE : en dC dI dA sz s) (hG : ty_ok (dC, dI) vwCl Γ (TP dA Γ g) sz X H) (ha : (Γ a).1 = 1) (hl : Cond.fieldLink own index "WeekBank" "told" "LWeekBank$Rules;" ∈ AL) (hdg : decode cc pc = .ok (.getfield index, 3)) (kk : ∀ b i : Nat, Γ b = (6, i) → (i : Int) = (g 13 0) → i < 2 → W p l e R s m args below meth c H locs cells slots Q (F0 m (pc + 3) ls (.ref b :: rest))) : W p l e R s m args below meth c H locs cells slots Q (F0 m pc ls (.ref a :: rest)) := by
  refine ty_get (Tb := TX8) (C := RX8) (N := 13) (ci := 8) (F := F8 Γ g) hx hb hA in_X8 hown hE.1 hG (by rw [ha]; decide) (fun x h => by rw [TP_1 ha] at h; exact h) rfl 7 (by decide) (hA _ hl) (fun _ h => h) hdg (fun v hv => ?_)
  obtain ⟨b, i, rfl, h2, h3, h4⟩ := hv; exact kk b i h2 h3 h4
theorem put_X8_7 (hx : p.tables.exec = Jvm.exec) (hb : c.code = cc) (hA : ∀ w ∈ AL, w.before args s = true) {own : String} {index : Nat} (hown : s.vm.findClass own = some m.cls) (hE : en dC dI dA sz s) (hG : ty_ok (dC, dI) vwCl Γ (TP dA Γ g) sz X H) (hS0 : va_S (ty_A sz) H0 H locs) (hU : Un Γ) (ha : (Γ a).1 = 1) (hl : Cond.fieldLink own index "WeekBank" "told" "LWeekBank$Rules;" ∈ AL) {b i : Nat} (hr : Γ b = (6, i)) (h2 : i < 2) (hdg : decode cc pc = .ok (.putfield index, 3)) (kk : ∀ (H1 : Heap) (locs1 : List Loc), ty_ok (dC, dI) vwCl Γ (TP dA Γ (gs g 13 0 (i : Int))) sz X H1 → va_S (ty_A sz) H0 H1 locs1 → W p l e R s m args below meth c H1 locs1 cells slots Q (F0 m (pc + 3) ls rest)) : W p l e R s m args below meth c H locs cells slots Q (F0 m pc ls (.ref b :: .ref a :: rest)) :=
  ty_putG (T' := TP dA Γ (gs g 13 0 (i : Int))) (Tb := TX8) (C := RX8) (N := 13) (ci := 8) (F := F8 Γ g) (F' := F8 Γ (gs g 13 0 (i : Int))) hx hb hA in_X8 tyX8 tyX8_ok nmX8 hown hE.1 hG hS0 (by rw [ha]; decide) (fun x h => by rw [TP_1 ha] at h; exact h) (fun x h => by rw [TP_1 ha]; exact h) rfl 7 (by decide) (hA _ hl) (fun _ h => h) rfl (ty := .object "WeekBank$Rules") (tyX8_ok 7 (by decide)) (rfl) (rfl) (fun j hj hne v hv => match j, hj, hne, v, hv with
      | 0, _, _, v, hv => hv
      | 1, _, _, v, hv => hv
      | 2, _, _, v, hv => hv
      | 3, _, _, v, hv => hv
      | 4, _, _, v, hv => hv
      | 5, _, _, v, hv => hv
      | 6, _, _, v, hv => hv
      | 7, _, hne, v, hv => absurd rfl hne
      | 8, _, _, v, hv => hv
      | 9, _, _, v, hv => hv
      | 10, _, _, v, hv => hv
      | 11, _, _, v, hv => hv
      | 12, _, _, v, hv => hv) ⟨b, i, rfl, hr, (gs_self _ _ _ _).symm, h2⟩ (fun b y hb h0 h => TP_gs (by show ((Γ b).1 == 1) = false; exact beq_eq_false_iff_ne.mpr (hU.one ha rfl hb)) h) hdg kk
theorem get_X8_8 (hx : p.tables.exec = Jvm.exec) (hb : c.code = cc) (hA : ∀ w ∈ AL, w.before args s = true) {own : String} {index : Nat} (hown : s.vm.findClass own = some m.cls) (hE : en dC dI dA sz s) (hG : ty_ok (dC, dI) vwCl Γ (TP dA Γ g) sz X H) (ha : (Γ a).1 = 1) (hl : Cond.fieldLink own index "WeekBank" "draft" "LWeekBank$Rules;" ∈ AL) (hdg : decode cc pc = .ok (.getfield index, 3)) (kk : ∀ b i : Nat, Γ b = (6, i) → (i : Int) = (g 12 0) → i < 2 → W p l e R s m args below meth c H locs cells slots Q (F0 m (pc + 3) ls (.ref b :: rest))) : W p l e R s m args below meth c H locs cells slots Q (F0 m pc ls (.ref a :: rest)) := by
  refine ty_get (Tb := TX8) (C := RX8) (N := 13) (ci := 8) (F := F8 Γ g) hx hb hA in_X8 hown hE.1 hG (by rw [ha]; decide) (fun x h => by rw [TP_1 ha] at h; exact h) rfl 8 (by decide) (hA _ hl) (fun _ h => h) hdg (fun v hv => ?_)
  obtain ⟨b, i, rfl, h2, h3, h4⟩ := hv; exact kk b i h2 h3 h4
theorem put_X8_8 (hx : p.tables.exec = Jvm.exec) (hb : c.code = cc) (hA : ∀ w ∈ AL, w.before args s = true) {own : String} {index : Nat} (hown : s.vm.findClass own = some m.cls) (hE : en dC dI dA sz s) (hG : ty_ok (dC, dI) vwCl Γ (TP dA Γ g) sz X H) (hS0 : va_S (ty_A sz) H0 H locs) (hU : Un Γ) (ha : (Γ a).1 = 1) (hl : Cond.fieldLink own index "WeekBank" "draft" "LWeekBank$Rules;" ∈ AL) {b i : Nat} (hr : Γ b = (6, i)) (h2 : i < 2) (hdg : decode cc pc = .ok (.putfield index, 3)) (kk : ∀ (H1 : Heap) (locs1 : List Loc), ty_ok (dC, dI) vwCl Γ (TP dA Γ (gs g 12 0 (i : Int))) sz X H1 → va_S (ty_A sz) H0 H1 locs1 → W p l e R s m args below meth c H1 locs1 cells slots Q (F0 m (pc + 3) ls rest)) : W p l e R s m args below meth c H locs cells slots Q (F0 m pc ls (.ref b :: .ref a :: rest)) :=
  ty_putG (T' := TP dA Γ (gs g 12 0 (i : Int))) (Tb := TX8) (C := RX8) (N := 13) (ci := 8) (F := F8 Γ g) (F' := F8 Γ (gs g 12 0 (i : Int))) hx hb hA in_X8 tyX8 tyX8_ok nmX8 hown hE.1 hG hS0 (by rw [ha]; decide) (fun x h => by rw [TP_1 ha] at h; exact h) (fun x h => by rw [TP_1 ha]; exact h) rfl 8 (by decide) (hA _ hl) (fun _ h => h) rfl (ty := .object "WeekBank$Rules") (tyX8_ok 8 (by decide)) (rfl) (rfl) (fun j hj hne v hv => match j, hj, hne, v, hv with
      | 0, _, _, v, hv => hv
      | 1, _, _, v, hv => hv
      | 2, _, _, v, hv => hv
      | 3, _, _, v, hv => hv
      | 4, _, _, v, hv => hv
      | 5, _, _, v, hv => hv
      | 6, _, _, v, hv => hv
      | 7, _, _, v, hv => hv
      | 8, _, hne, v, hv => absurd rfl hne
      | 9, _, _, v, hv => hv
      | 10, _, _, v, hv => hv
      | 11, _, _, v, hv => hv
      | 12, _, _, v, hv => hv) ⟨b, i, rfl, hr, (gs_self _ _ _ _).symm, h2⟩ (fun b y hb h0 h => TP_gs (by show ((Γ b).1 == 1) = false; exact beq_eq_false_iff_ne.mpr (hU.one ha rfl hb)) h) hdg kk
theorem get_X8_9 (hx : p.tables.exec = Jvm.exec) (hb : c.code = cc) (hA : ∀ w ∈ AL, w.before args s = true) {own : String} {index : Nat} (hown : s.vm.findClass own = some m.cls) (hE : en dC dI dA sz s) (hG : ty_ok (dC, dI) vwCl Γ (TP dA Γ g) sz X H) (ha : (Γ a).1 = 1) (hl : Cond.fieldLink own index "WeekBank" "yearNow" "I" ∈ AL) (hdg : decode cc pc = .ok (.getfield index, 3)) (kk : ∀ x : Int32, x.toInt = g 4 0 → W p l e R s m args below meth c H locs cells slots Q (F0 m (pc + 3) ls (.int x :: rest))) : W p l e R s m args below meth c H locs cells slots Q (F0 m pc ls (.ref a :: rest)) := by
  refine ty_get (Tb := TX8) (C := RX8) (N := 13) (ci := 8) (F := F8 Γ g) hx hb hA in_X8 hown hE.1 hG (by rw [ha]; decide) (fun x h => by rw [TP_1 ha] at h; exact h) rfl 9 (by decide) (hA _ hl) (fun _ h => h) hdg (fun v hv => ?_)
  obtain ⟨x, rfl, h2⟩ := hv; exact kk x h2
theorem put_X8_9 (hx : p.tables.exec = Jvm.exec) (hb : c.code = cc) (hA : ∀ w ∈ AL, w.before args s = true) {own : String} {index : Nat} (hown : s.vm.findClass own = some m.cls) (hE : en dC dI dA sz s) (hG : ty_ok (dC, dI) vwCl Γ (TP dA Γ g) sz X H) (hS0 : va_S (ty_A sz) H0 H locs) (hU : Un Γ) (ha : (Γ a).1 = 1) (hl : Cond.fieldLink own index "WeekBank" "yearNow" "I" ∈ AL) {x : Int32} (hdg : decode cc pc = .ok (.putfield index, 3)) (kk : ∀ (H1 : Heap) (locs1 : List Loc), ty_ok (dC, dI) vwCl Γ (TP dA Γ (gs g 4 0 x.toInt)) sz X H1 → va_S (ty_A sz) H0 H1 locs1 → W p l e R s m args below meth c H1 locs1 cells slots Q (F0 m (pc + 3) ls rest)) : W p l e R s m args below meth c H locs cells slots Q (F0 m pc ls (.int x :: .ref a :: rest)) :=
  ty_putG (T' := TP dA Γ (gs g 4 0 x.toInt)) (Tb := TX8) (C := RX8) (N := 13) (ci := 8) (F := F8 Γ g) (F' := F8 Γ (gs g 4 0 x.toInt)) hx hb hA in_X8 tyX8 tyX8_ok nmX8 hown hE.1 hG hS0 (by rw [ha]; decide) (fun x h => by rw [TP_1 ha] at h; exact h) (fun x h => by rw [TP_1 ha]; exact h) rfl 9 (by decide) (hA _ hl) (fun _ h => h) rfl (ty := .int) (tyX8_ok 9 (by decide)) (rfl) (rfl) (fun j hj hne v hv => match j, hj, hne, v, hv with
      | 0, _, _, v, hv => hv
      | 1, _, _, v, hv => hv
      | 2, _, _, v, hv => hv
      | 3, _, _, v, hv => hv
      | 4, _, _, v, hv => hv
      | 5, _, _, v, hv => hv
      | 6, _, _, v, hv => hv
      | 7, _, _, v, hv => hv
      | 8, _, _, v, hv => hv
      | 9, _, hne, v, hv => absurd rfl hne
      | 10, _, _, v, hv => hv
      | 11, _, _, v, hv => hv
      | 12, _, _, v, hv => hv) ⟨x, rfl, (gs_self _ _ _ _).symm⟩ (fun b y hb h0 h => TP_gs (by show ((Γ b).1 == 1) = false; exact beq_eq_false_iff_ne.mpr (hU.one ha rfl hb)) h) hdg kk
theorem get_X8_10 (hx : p.tables.exec = Jvm.exec) (hb : c.code = cc) (hA : ∀ w ∈ AL, w.before args s = true) {own : String} {index : Nat} (hown : s.vm.findClass own = some m.cls) (hE : en dC dI dA sz s) (hG : ty_ok (dC, dI) vwCl Γ (TP dA Γ g) sz X H) (ha : (Γ a).1 = 1) (hl : Cond.fieldLink own index "WeekBank" "now" "I" ∈ AL) (hdg : decode cc pc = .ok (.getfield index, 3)) (kk : ∀ x : Int32, x.toInt = g 5 0 → W p l e R s m args below meth c H locs cells slots Q (F0 m (pc + 3) ls (.int x :: rest))) : W p l e R s m args below meth c H locs cells slots Q (F0 m pc ls (.ref a :: rest)) := by
  refine ty_get (Tb := TX8) (C := RX8) (N := 13) (ci := 8) (F := F8 Γ g) hx hb hA in_X8 hown hE.1 hG (by rw [ha]; decide) (fun x h => by rw [TP_1 ha] at h; exact h) rfl 10 (by decide) (hA _ hl) (fun _ h => h) hdg (fun v hv => ?_)
  obtain ⟨x, rfl, h2⟩ := hv; exact kk x h2
theorem put_X8_10 (hx : p.tables.exec = Jvm.exec) (hb : c.code = cc) (hA : ∀ w ∈ AL, w.before args s = true) {own : String} {index : Nat} (hown : s.vm.findClass own = some m.cls) (hE : en dC dI dA sz s) (hG : ty_ok (dC, dI) vwCl Γ (TP dA Γ g) sz X H) (hS0 : va_S (ty_A sz) H0 H locs) (hU : Un Γ) (ha : (Γ a).1 = 1) (hl : Cond.fieldLink own index "WeekBank" "now" "I" ∈ AL) {x : Int32} (hdg : decode cc pc = .ok (.putfield index, 3)) (kk : ∀ (H1 : Heap) (locs1 : List Loc), ty_ok (dC, dI) vwCl Γ (TP dA Γ (gs g 5 0 x.toInt)) sz X H1 → va_S (ty_A sz) H0 H1 locs1 → W p l e R s m args below meth c H1 locs1 cells slots Q (F0 m (pc + 3) ls rest)) : W p l e R s m args below meth c H locs cells slots Q (F0 m pc ls (.int x :: .ref a :: rest)) :=
  ty_putG (T' := TP dA Γ (gs g 5 0 x.toInt)) (Tb := TX8) (C := RX8) (N := 13) (ci := 8) (F := F8 Γ g) (F' := F8 Γ (gs g 5 0 x.toInt)) hx hb hA in_X8 tyX8 tyX8_ok nmX8 hown hE.1 hG hS0 (by rw [ha]; decide) (fun x h => by rw [TP_1 ha] at h; exact h) (fun x h => by rw [TP_1 ha]; exact h) rfl 10 (by decide) (hA _ hl) (fun _ h => h) rfl (ty := .int) (tyX8_ok 10 (by decide)) (rfl) (rfl) (fun j hj hne v hv => match j, hj, hne, v, hv with
      | 0, _, _, v, hv => hv
      | 1, _, _, v, hv => hv
      | 2, _, _, v, hv => hv
      | 3, _, _, v, hv => hv
      | 4, _, _, v, hv => hv
      | 5, _, _, v, hv => hv
      | 6, _, _, v, hv => hv
      | 7, _, _, v, hv => hv
      | 8, _, _, v, hv => hv
      | 9, _, _, v, hv => hv
      | 10, _, hne, v, hv => absurd rfl hne
      | 11, _, _, v, hv => hv
      | 12, _, _, v, hv => hv) ⟨x, rfl, (gs_self _ _ _ _).symm⟩ (fun b y hb h0 h => TP_gs (by show ((Γ b).1 == 1) = false; exact beq_eq_false_iff_ne.mpr (hU.one ha rfl hb)) h) hdg kk
theorem get_X8_11 (hx : p.tables.exec = Jvm.exec) (hb : c.code = cc) (hA : ∀ w ∈ AL, w.before args s = true) {own : String} {index : Nat} (hown : s.vm.findClass own = some m.cls) (hE : en dC dI dA sz s) (hG : ty_ok (dC, dI) vwCl Γ (TP dA Γ g) sz X H) (ha : (Γ a).1 = 1) (hl : Cond.fieldLink own index "WeekBank" "search" "LWeekBank$RingSearch;" ∈ AL) (hdg : decode cc pc = .ok (.getfield index, 3)) (kk : ∀ b : Nat, (Γ b).1 = 8 → W p l e R s m args below meth c H locs cells slots Q (F0 m (pc + 3) ls (.ref b :: rest))) : W p l e R s m args below meth c H locs cells slots Q (F0 m pc ls (.ref a :: rest)) := by
  refine ty_get (Tb := TX8) (C := RX8) (N := 13) (ci := 8) (F := F8 Γ g) hx hb hA in_X8 hown hE.1 hG (by rw [ha]; decide) (fun x h => by rw [TP_1 ha] at h; exact h) rfl 11 (by decide) (hA _ hl) (fun _ h => h) hdg (fun v hv => ?_)
  obtain ⟨b, rfl, h2⟩ := hv; exact kk b h2
theorem get_X8_12 (hx : p.tables.exec = Jvm.exec) (hb : c.code = cc) (hA : ∀ w ∈ AL, w.before args s = true) {own : String} {index : Nat} (hown : s.vm.findClass own = some m.cls) (hE : en dC dI dA sz s) (hG : ty_ok (dC, dI) vwCl Γ (TP dA Γ g) sz X H) (ha : (Γ a).1 = 1) (hl : Cond.fieldLink own index "WeekBank" "feeRounds" "LWeekBank$FeeRounds;" ∈ AL) (hdg : decode cc pc = .ok (.getfield index, 3)) (kk : ∀ b : Nat, (Γ b).1 = 9 → W p l e R s m args below meth c H locs cells slots Q (F0 m (pc + 3) ls (.ref b :: rest))) : W p l e R s m args below meth c H locs cells slots Q (F0 m pc ls (.ref a :: rest)) := by
  refine ty_get (Tb := TX8) (C := RX8) (N := 13) (ci := 8) (F := F8 Γ g) hx hb hA in_X8 hown hE.1 hG (by rw [ha]; decide) (fun x h => by rw [TP_1 ha] at h; exact h) rfl 12 (by decide) (hA _ hl) (fun _ h => h) hdg (fun v hv => ?_)
  obtain ⟨b, rfl, h2⟩ := hv; exact kk b h2
theorem get_X9_0 (hx : p.tables.exec = Jvm.exec) (hb : c.code = cc) (hA : ∀ w ∈ AL, w.before args s = true) {own : String} {index : Nat} (hown : s.vm.findClass own = some m.cls) (hE : en dC dI dA sz s) (hG : ty_ok (dC, dI) vwCl Γ (TP dA Γ g) sz X H) (ha : (Γ a).1 = 30) (hl : Cond.fieldLink own index "WeekBankModel" "thrown" "I" ∈ AL) (hdg : decode cc pc = .ok (.getfield index, 3)) (kk : ∀ x : Int32, x.toInt = g 100 0 → W p l e R s m args below meth c H locs cells slots Q (F0 m (pc + 3) ls (.int x :: rest))) : W p l e R s m args below meth c H locs cells slots Q (F0 m pc ls (.ref a :: rest)) := by
  refine ty_get (Tb := TX9) (C := RX9) (N := 47) (ci := 9) (F := F9 Γ g) hx hb hA in_X9 hown hE.1 hG (by rw [ha]; decide) (fun x h => by rw [TP_30 ha] at h; exact h) rfl 0 (by decide) (hA _ hl) (fun _ h => h) hdg (fun v hv => ?_)
  have hv : vZ (g 100 0) v := hv; obtain ⟨x, rfl, h2⟩ := hv; exact kk x h2
theorem put_X9_0 (hx : p.tables.exec = Jvm.exec) (hb : c.code = cc) (hA : ∀ w ∈ AL, w.before args s = true) {own : String} {index : Nat} (hown : s.vm.findClass own = some m.cls) (hE : en dC dI dA sz s) (hG : ty_ok (dC, dI) vwCl Γ (TP dA Γ g) sz X H) (hS0 : va_S (ty_A sz) H0 H locs) (hU : Un Γ) (ha : (Γ a).1 = 30) (hl : Cond.fieldLink own index "WeekBankModel" "thrown" "I" ∈ AL) {x : Int32} (hdg : decode cc pc = .ok (.putfield index, 3)) (kk : ∀ (H1 : Heap) (locs1 : List Loc), ty_ok (dC, dI) vwCl Γ (TP dA Γ (gs g 100 0 x.toInt)) sz X H1 → va_S (ty_A sz) H0 H1 locs1 → W p l e R s m args below meth c H1 locs1 cells slots Q (F0 m (pc + 3) ls rest)) : W p l e R s m args below meth c H locs cells slots Q (F0 m pc ls (.int x :: .ref a :: rest)) :=
  ty_putG (T' := TP dA Γ (gs g 100 0 x.toInt)) (Tb := TX9) (C := RX9) (N := 47) (ci := 9) (F := F9 Γ g) (F' := F9 Γ (gs g 100 0 x.toInt)) hx hb hA in_X9 tyX9 tyX9_ok nmX9 hown hE.1 hG hS0 (by rw [ha]; decide) (fun x h => by rw [TP_30 ha] at h; exact h) (fun x h => by rw [TP_30 ha]; exact h) rfl 0 (by decide) (hA _ hl) (fun _ h => h) rfl (ty := .int) (tyX9_ok 0 (by decide)) (rfl) (rfl) (fun j hj hne v hv => by
    unfold F9 at hv ⊢
    by_cases e : mA j = true
    · rw [if_pos e] at hv ⊢; exact hv
    · rw [if_neg e] at hv ⊢; rw [gs_c _ _ _ _ (by omega)]; exact hv) (show vZ ((gs g 100 0 x.toInt) 100 0) (.int x) from ⟨x, rfl, (gs_self _ _ _ _).symm⟩) (fun b y hb h0 h => by
    by_cases e : (Γ b).1 = 100
    · rw [TP_m (k := 0) e] at h ⊢
      exact h.mono (fun f hf => ⟨fun j hj => absurd hj (Nat.not_lt_zero _), hf.2⟩)
    · exact TP_gs (by rw [show (100 : Nat) = 100 + 0 from rfl, dpt_m]; simp [hU.one ha rfl hb, e]) h) hdg kk
theorem get_X9_1 (hx : p.tables.exec = Jvm.exec) (hb : c.code = cc) (hA : ∀ w ∈ AL, w.before args s = true) {own : String} {index : Nat} (hown : s.vm.findClass own = some m.cls) (hE : en dC dI dA sz s) (hG : ty_ok (dC, dI) vwCl Γ (TP dA Γ g) sz X H) (ha : (Γ a).1 = 30) (hl : Cond.fieldLink own index "WeekBankModel" "flats" "I" ∈ AL) (hdg : decode cc pc = .ok (.getfield index, 3)) (kk : ∀ x : Int32, x.toInt = g 101 0 → W p l e R s m args below meth c H locs cells slots Q (F0 m (pc + 3) ls (.int x :: rest))) : W p l e R s m args below meth c H locs cells slots Q (F0 m pc ls (.ref a :: rest)) := by
  refine ty_get (Tb := TX9) (C := RX9) (N := 47) (ci := 9) (F := F9 Γ g) hx hb hA in_X9 hown hE.1 hG (by rw [ha]; decide) (fun x h => by rw [TP_30 ha] at h; exact h) rfl 1 (by decide) (hA _ hl) (fun _ h => h) hdg (fun v hv => ?_)
  have hv : vZ (g 101 0) v := hv; obtain ⟨x, rfl, h2⟩ := hv; exact kk x h2
theorem put_X9_1 (hx : p.tables.exec = Jvm.exec) (hb : c.code = cc) (hA : ∀ w ∈ AL, w.before args s = true) {own : String} {index : Nat} (hown : s.vm.findClass own = some m.cls) (hE : en dC dI dA sz s) (hG : ty_ok (dC, dI) vwCl Γ (TP dA Γ g) sz X H) (hS0 : va_S (ty_A sz) H0 H locs) (hU : Un Γ) (ha : (Γ a).1 = 30) (hl : Cond.fieldLink own index "WeekBankModel" "flats" "I" ∈ AL) {x : Int32} (hdg : decode cc pc = .ok (.putfield index, 3)) (kk : ∀ (H1 : Heap) (locs1 : List Loc), ty_ok (dC, dI) vwCl Γ (TP dA Γ (gs g 101 0 x.toInt)) sz X H1 → va_S (ty_A sz) H0 H1 locs1 → W p l e R s m args below meth c H1 locs1 cells slots Q (F0 m (pc + 3) ls rest)) : W p l e R s m args below meth c H locs cells slots Q (F0 m pc ls (.int x :: .ref a :: rest)) :=
  ty_putG (T' := TP dA Γ (gs g 101 0 x.toInt)) (Tb := TX9) (C := RX9) (N := 47) (ci := 9) (F := F9 Γ g) (F' := F9 Γ (gs g 101 0 x.toInt)) hx hb hA in_X9 tyX9 tyX9_ok nmX9 hown hE.1 hG hS0 (by rw [ha]; decide) (fun x h => by rw [TP_30 ha] at h; exact h) (fun x h => by rw [TP_30 ha]; exact h) rfl 1 (by decide) (hA _ hl) (fun _ h => h) rfl (ty := .int) (tyX9_ok 1 (by decide)) (rfl) (rfl) (fun j hj hne v hv => by
    unfold F9 at hv ⊢
    by_cases e : mA j = true
    · rw [if_pos e] at hv ⊢; exact hv
    · rw [if_neg e] at hv ⊢; rw [gs_c _ _ _ _ (by omega)]; exact hv) (show vZ ((gs g 101 0 x.toInt) 101 0) (.int x) from ⟨x, rfl, (gs_self _ _ _ _).symm⟩) (fun b y hb h0 h => by
    by_cases e : (Γ b).1 = 101
    · rw [TP_m (k := 1) e] at h ⊢
      exact h.mono (fun f hf => ⟨fun j hj => absurd hj (Nat.not_lt_zero _), hf.2⟩)
    · exact TP_gs (by rw [show (101 : Nat) = 100 + 1 from rfl, dpt_m]; simp [hU.one ha rfl hb, e]) h) hdg kk
theorem get_X9_2 (hx : p.tables.exec = Jvm.exec) (hb : c.code = cc) (hA : ∀ w ∈ AL, w.before args s = true) {own : String} {index : Nat} (hown : s.vm.findClass own = some m.cls) (hE : en dC dI dA sz s) (hG : ty_ok (dC, dI) vwCl Γ (TP dA Γ g) sz X H) (ha : (Γ a).1 = 30) (hl : Cond.fieldLink own index "WeekBankModel" "town" "[I" ∈ AL) (hdg : decode cc pc = .ok (.getfield index, 3)) (kk : ∀ b : Nat, (Γ b).1 = 102 → W p l e R s m args below meth c H locs cells slots Q (F0 m (pc + 3) ls (.ref b :: rest))) : W p l e R s m args below meth c H locs cells slots Q (F0 m pc ls (.ref a :: rest)) := by
  refine ty_get (Tb := TX9) (C := RX9) (N := 47) (ci := 9) (F := F9 Γ g) hx hb hA in_X9 hown hE.1 hG (by rw [ha]; decide) (fun x h => by rw [TP_30 ha] at h; exact h) rfl 2 (by decide) (hA _ hl) (fun _ h => h) hdg (fun v hv => ?_)
  have hv : vR Γ 102 v := hv; obtain ⟨b, rfl, h2⟩ := hv; exact kk b h2
theorem get_X9_3 (hx : p.tables.exec = Jvm.exec) (hb : c.code = cc) (hA : ∀ w ∈ AL, w.before args s = true) {own : String} {index : Nat} (hown : s.vm.findClass own = some m.cls) (hE : en dC dI dA sz s) (hG : ty_ok (dC, dI) vwCl Γ (TP dA Γ g) sz X H) (ha : (Γ a).1 = 30) (hl : Cond.fieldLink own index "WeekBankModel" "size" "[I" ∈ AL) (hdg : decode cc pc = .ok (.getfield index, 3)) (kk : ∀ b : Nat, (Γ b).1 = 103 → W p l e R s m args below meth c H locs cells slots Q (F0 m (pc + 3) ls (.ref b :: rest))) : W p l e R s m args below meth c H locs cells slots Q (F0 m pc ls (.ref a :: rest)) := by
  refine ty_get (Tb := TX9) (C := RX9) (N := 47) (ci := 9) (F := F9 Γ g) hx hb hA in_X9 hown hE.1 hG (by rw [ha]; decide) (fun x h => by rw [TP_30 ha] at h; exact h) rfl 3 (by decide) (hA _ hl) (fun _ h => h) hdg (fun v hv => ?_)
  have hv : vR Γ 103 v := hv; obtain ⟨b, rfl, h2⟩ := hv; exact kk b h2
theorem get_X9_4 (hx : p.tables.exec = Jvm.exec) (hb : c.code = cc) (hA : ∀ w ∈ AL, w.before args s = true) {own : String} {index : Nat} (hown : s.vm.findClass own = some m.cls) (hE : en dC dI dA sz s) (hG : ty_ok (dC, dI) vwCl Γ (TP dA Γ g) sz X H) (ha : (Γ a).1 = 30) (hl : Cond.fieldLink own index "WeekBankModel" "owners" "I" ∈ AL) (hdg : decode cc pc = .ok (.getfield index, 3)) (kk : ∀ x : Int32, x.toInt = g 104 0 → W p l e R s m args below meth c H locs cells slots Q (F0 m (pc + 3) ls (.int x :: rest))) : W p l e R s m args below meth c H locs cells slots Q (F0 m pc ls (.ref a :: rest)) := by
  refine ty_get (Tb := TX9) (C := RX9) (N := 47) (ci := 9) (F := F9 Γ g) hx hb hA in_X9 hown hE.1 hG (by rw [ha]; decide) (fun x h => by rw [TP_30 ha] at h; exact h) rfl 4 (by decide) (hA _ hl) (fun _ h => h) hdg (fun v hv => ?_)
  have hv : vZ (g 104 0) v := hv; obtain ⟨x, rfl, h2⟩ := hv; exact kk x h2
theorem put_X9_4 (hx : p.tables.exec = Jvm.exec) (hb : c.code = cc) (hA : ∀ w ∈ AL, w.before args s = true) {own : String} {index : Nat} (hown : s.vm.findClass own = some m.cls) (hE : en dC dI dA sz s) (hG : ty_ok (dC, dI) vwCl Γ (TP dA Γ g) sz X H) (hS0 : va_S (ty_A sz) H0 H locs) (hU : Un Γ) (ha : (Γ a).1 = 30) (hl : Cond.fieldLink own index "WeekBankModel" "owners" "I" ∈ AL) {x : Int32} (hdg : decode cc pc = .ok (.putfield index, 3)) (kk : ∀ (H1 : Heap) (locs1 : List Loc), ty_ok (dC, dI) vwCl Γ (TP dA Γ (gs g 104 0 x.toInt)) sz X H1 → va_S (ty_A sz) H0 H1 locs1 → W p l e R s m args below meth c H1 locs1 cells slots Q (F0 m (pc + 3) ls rest)) : W p l e R s m args below meth c H locs cells slots Q (F0 m pc ls (.int x :: .ref a :: rest)) :=
  ty_putG (T' := TP dA Γ (gs g 104 0 x.toInt)) (Tb := TX9) (C := RX9) (N := 47) (ci := 9) (F := F9 Γ g) (F' := F9 Γ (gs g 104 0 x.toInt)) hx hb hA in_X9 tyX9 tyX9_ok nmX9 hown hE.1 hG hS0 (by rw [ha]; decide) (fun x h => by rw [TP_30 ha] at h; exact h) (fun x h => by rw [TP_30 ha]; exact h) rfl 4 (by decide) (hA _ hl) (fun _ h => h) rfl (ty := .int) (tyX9_ok 4 (by decide)) (rfl) (rfl) (fun j hj hne v hv => by
    unfold F9 at hv ⊢
    by_cases e : mA j = true
    · rw [if_pos e] at hv ⊢; exact hv
    · rw [if_neg e] at hv ⊢; rw [gs_c _ _ _ _ (by omega)]; exact hv) (show vZ ((gs g 104 0 x.toInt) 104 0) (.int x) from ⟨x, rfl, (gs_self _ _ _ _).symm⟩) (fun b y hb h0 h => by
    by_cases e : (Γ b).1 = 104
    · rw [TP_m (k := 4) e] at h ⊢
      exact h.mono (fun f hf => ⟨fun j hj => absurd hj (Nat.not_lt_zero _), hf.2⟩)
    · exact TP_gs (by rw [show (104 : Nat) = 100 + 4 from rfl, dpt_m]; simp [hU.one ha rfl hb, e]) h) hdg kk
theorem get_X9_5 (hx : p.tables.exec = Jvm.exec) (hb : c.code = cc) (hA : ∀ w ∈ AL, w.before args s = true) {own : String} {index : Nat} (hown : s.vm.findClass own = some m.cls) (hE : en dC dI dA sz s) (hG : ty_ok (dC, dI) vwCl Γ (TP dA Γ g) sz X H) (ha : (Γ a).1 = 30) (hl : Cond.fieldLink own index "WeekBankModel" "limit" "[I" ∈ AL) (hdg : decode cc pc = .ok (.getfield index, 3)) (kk : ∀ b : Nat, (Γ b).1 = 105 → W p l e R s m args below meth c H locs cells slots Q (F0 m (pc + 3) ls (.ref b :: rest))) : W p l e R s m args below meth c H locs cells slots Q (F0 m pc ls (.ref a :: rest)) := by
  refine ty_get (Tb := TX9) (C := RX9) (N := 47) (ci := 9) (F := F9 Γ g) hx hb hA in_X9 hown hE.1 hG (by rw [ha]; decide) (fun x h => by rw [TP_30 ha] at h; exact h) rfl 5 (by decide) (hA _ hl) (fun _ h => h) hdg (fun v hv => ?_)
  have hv : vR Γ 105 v := hv; obtain ⟨b, rfl, h2⟩ := hv; exact kk b h2
theorem get_X9_6 (hx : p.tables.exec = Jvm.exec) (hb : c.code = cc) (hA : ∀ w ∈ AL, w.before args s = true) {own : String} {index : Nat} (hown : s.vm.findClass own = some m.cls) (hE : en dC dI dA sz s) (hG : ty_ok (dC, dI) vwCl Γ (TP dA Γ g) sz X H) (ha : (Γ a).1 = 30) (hl : Cond.fieldLink own index "WeekBankModel" "points" "[I" ∈ AL) (hdg : decode cc pc = .ok (.getfield index, 3)) (kk : ∀ b : Nat, (Γ b).1 = 106 → W p l e R s m args below meth c H locs cells slots Q (F0 m (pc + 3) ls (.ref b :: rest))) : W p l e R s m args below meth c H locs cells slots Q (F0 m pc ls (.ref a :: rest)) := by
  refine ty_get (Tb := TX9) (C := RX9) (N := 47) (ci := 9) (F := F9 Γ g) hx hb hA in_X9 hown hE.1 hG (by rw [ha]; decide) (fun x h => by rw [TP_30 ha] at h; exact h) rfl 6 (by decide) (hA _ hl) (fun _ h => h) hdg (fun v hv => ?_)
  have hv : vR Γ 106 v := hv; obtain ⟨b, rfl, h2⟩ := hv; exact kk b h2
theorem get_X9_7 (hx : p.tables.exec = Jvm.exec) (hb : c.code = cc) (hA : ∀ w ∈ AL, w.before args s = true) {own : String} {index : Nat} (hown : s.vm.findClass own = some m.cls) (hE : en dC dI dA sz s) (hG : ty_ok (dC, dI) vwCl Γ (TP dA Γ g) sz X H) (ha : (Γ a).1 = 30) (hl : Cond.fieldLink own index "WeekBankModel" "luck" "[I" ∈ AL) (hdg : decode cc pc = .ok (.getfield index, 3)) (kk : ∀ b : Nat, (Γ b).1 = 107 → W p l e R s m args below meth c H locs cells slots Q (F0 m (pc + 3) ls (.ref b :: rest))) : W p l e R s m args below meth c H locs cells slots Q (F0 m pc ls (.ref a :: rest)) := by
  refine ty_get (Tb := TX9) (C := RX9) (N := 47) (ci := 9) (F := F9 Γ g) hx hb hA in_X9 hown hE.1 hG (by rw [ha]; decide) (fun x h => by rw [TP_30 ha] at h; exact h) rfl 7 (by decide) (hA _ hl) (fun _ h => h) hdg (fun v hv => ?_)
  have hv : vR Γ 107 v := hv; obtain ⟨b, rfl, h2⟩ := hv; exact kk b h2
theorem get_X9_8 (hx : p.tables.exec = Jvm.exec) (hb : c.code = cc) (hA : ∀ w ∈ AL, w.before args s = true) {own : String} {index : Nat} (hown : s.vm.findClass own = some m.cls) (hE : en dC dI dA sz s) (hG : ty_ok (dC, dI) vwCl Γ (TP dA Γ g) sz X H) (ha : (Γ a).1 = 30) (hl : Cond.fieldLink own index "WeekBankModel" "isDead" "[Z" ∈ AL) (hdg : decode cc pc = .ok (.getfield index, 3)) (kk : ∀ b : Nat, (Γ b).1 = 108 → W p l e R s m args below meth c H locs cells slots Q (F0 m (pc + 3) ls (.ref b :: rest))) : W p l e R s m args below meth c H locs cells slots Q (F0 m pc ls (.ref a :: rest)) := by
  refine ty_get (Tb := TX9) (C := RX9) (N := 47) (ci := 9) (F := F9 Γ g) hx hb hA in_X9 hown hE.1 hG (by rw [ha]; decide) (fun x h => by rw [TP_30 ha] at h; exact h) rfl 8 (by decide) (hA _ hl) (fun _ h => h) hdg (fun v hv => ?_)
  have hv : vR Γ 108 v := hv; obtain ⟨b, rfl, h2⟩ := hv; exact kk b h2
theorem get_X9_9 (hx : p.tables.exec = Jvm.exec) (hb : c.code = cc) (hA : ∀ w ∈ AL, w.before args s = true) {own : String} {index : Nat} (hown : s.vm.findClass own = some m.cls) (hE : en dC dI dA sz s) (hG : ty_ok (dC, dI) vwCl Γ (TP dA Γ g) sz X H) (ha : (Γ a).1 = 30) (hl : Cond.fieldLink own index "WeekBankModel" "ownerOf" "[I" ∈ AL) (hdg : decode cc pc = .ok (.getfield index, 3)) (kk : ∀ b : Nat, (Γ b).1 = 109 → W p l e R s m args below meth c H locs cells slots Q (F0 m (pc + 3) ls (.ref b :: rest))) : W p l e R s m args below meth c H locs cells slots Q (F0 m pc ls (.ref a :: rest)) := by
  refine ty_get (Tb := TX9) (C := RX9) (N := 47) (ci := 9) (F := F9 Γ g) hx hb hA in_X9 hown hE.1 hG (by rw [ha]; decide) (fun x h => by rw [TP_30 ha] at h; exact h) rfl 9 (by decide) (hA _ hl) (fun _ h => h) hdg (fun v hv => ?_)
  have hv : vR Γ 109 v := hv; obtain ⟨b, rfl, h2⟩ := hv; exact kk b h2
theorem get_X9_10 (hx : p.tables.exec = Jvm.exec) (hb : c.code = cc) (hA : ∀ w ∈ AL, w.before args s = true) {own : String} {index : Nat} (hown : s.vm.findClass own = some m.cls) (hE : en dC dI dA sz s) (hG : ty_ok (dC, dI) vwCl Γ (TP dA Γ g) sz X H) (ha : (Γ a).1 = 30) (hl : Cond.fieldLink own index "WeekBankModel" "isShut" "[Z" ∈ AL) (hdg : decode cc pc = .ok (.getfield index, 3)) (kk : ∀ b : Nat, (Γ b).1 = 110 → W p l e R s m args below meth c H locs cells slots Q (F0 m (pc + 3) ls (.ref b :: rest))) : W p l e R s m args below meth c H locs cells slots Q (F0 m pc ls (.ref a :: rest)) := by
  refine ty_get (Tb := TX9) (C := RX9) (N := 47) (ci := 9) (F := F9 Γ g) hx hb hA in_X9 hown hE.1 hG (by rw [ha]; decide) (fun x h => by rw [TP_30 ha] at h; exact h) rfl 10 (by decide) (hA _ hl) (fun _ h => h) hdg (fun v hv => ?_)
  have hv : vR Γ 110 v := hv; obtain ⟨b, rfl, h2⟩ := hv; exact kk b h2
theorem get_X9_11 (hx : p.tables.exec = Jvm.exec) (hb : c.code = cc) (hA : ∀ w ∈ AL, w.before args s = true) {own : String} {index : Nat} (hown : s.vm.findClass own = some m.cls) (hE : en dC dI dA sz s) (hG : ty_ok (dC, dI) vwCl Γ (TP dA Γ g) sz X H) (ha : (Γ a).1 = 30) (hl : Cond.fieldLink own index "WeekBankModel" "year" "I" ∈ AL) (hdg : decode cc pc = .ok (.getfield index, 3)) (kk : ∀ x : Int32, x.toInt = g 111 0 → W p l e R s m args below meth c H locs cells slots Q (F0 m (pc + 3) ls (.int x :: rest))) : W p l e R s m args below meth c H locs cells slots Q (F0 m pc ls (.ref a :: rest)) := by
  refine ty_get (Tb := TX9) (C := RX9) (N := 47) (ci := 9) (F := F9 Γ g) hx hb hA in_X9 hown hE.1 hG (by rw [ha]; decide) (fun x h => by rw [TP_30 ha] at h; exact h) rfl 11 (by decide) (hA _ hl) (fun _ h => h) hdg (fun v hv => ?_)
  have hv : vZ (g 111 0) v := hv; obtain ⟨x, rfl, h2⟩ := hv; exact kk x h2
theorem put_X9_11 (hx : p.tables.exec = Jvm.exec) (hb : c.code = cc) (hA : ∀ w ∈ AL, w.before args s = true) {own : String} {index : Nat} (hown : s.vm.findClass own = some m.cls) (hE : en dC dI dA sz s) (hG : ty_ok (dC, dI) vwCl Γ (TP dA Γ g) sz X H) (hS0 : va_S (ty_A sz) H0 H locs) (hU : Un Γ) (ha : (Γ a).1 = 30) (hl : Cond.fieldLink own index "WeekBankModel" "year" "I" ∈ AL) {x : Int32} (hdg : decode cc pc = .ok (.putfield index, 3)) (kk : ∀ (H1 : Heap) (locs1 : List Loc), ty_ok (dC, dI) vwCl Γ (TP dA Γ (gs g 111 0 x.toInt)) sz X H1 → va_S (ty_A sz) H0 H1 locs1 → W p l e R s m args below meth c H1 locs1 cells slots Q (F0 m (pc + 3) ls rest)) : W p l e R s m args below meth c H locs cells slots Q (F0 m pc ls (.int x :: .ref a :: rest)) :=
  ty_putG (T' := TP dA Γ (gs g 111 0 x.toInt)) (Tb := TX9) (C := RX9) (N := 47) (ci := 9) (F := F9 Γ g) (F' := F9 Γ (gs g 111 0 x.toInt)) hx hb hA in_X9 tyX9 tyX9_ok nmX9 hown hE.1 hG hS0 (by rw [ha]; decide) (fun x h => by rw [TP_30 ha] at h; exact h) (fun x h => by rw [TP_30 ha]; exact h) rfl 11 (by decide) (hA _ hl) (fun _ h => h) rfl (ty := .int) (tyX9_ok 11 (by decide)) (rfl) (rfl) (fun j hj hne v hv => by
    unfold F9 at hv ⊢
    by_cases e : mA j = true
    · rw [if_pos e] at hv ⊢; exact hv
    · rw [if_neg e] at hv ⊢; rw [gs_c _ _ _ _ (by omega)]; exact hv) (show vZ ((gs g 111 0 x.toInt) 111 0) (.int x) from ⟨x, rfl, (gs_self _ _ _ _).symm⟩) (fun b y hb h0 h => by
    by_cases e : (Γ b).1 = 111
    · rw [TP_m (k := 11) e] at h ⊢
      exact h.mono (fun f hf => ⟨fun j hj => absurd hj (Nat.not_lt_zero _), hf.2⟩)
    · exact TP_gs (by rw [show (111 : Nat) = 100 + 11 from rfl, dpt_m]; simp [hU.one ha rfl hb, e]) h) hdg kk
theorem get_X9_12 (hx : p.tables.exec = Jvm.exec) (hb : c.code = cc) (hA : ∀ w ∈ AL, w.before args s = true) {own : String} {index : Nat} (hown : s.vm.findClass own = some m.cls) (hE : en dC dI dA sz s) (hG : ty_ok (dC, dI) vwCl Γ (TP dA Γ g) sz X H) (ha : (Γ a).1 = 30) (hl : Cond.fieldLink own index "WeekBankModel" "now" "I" ∈ AL) (hdg : decode cc pc = .ok (.getfield index, 3)) (kk : ∀ x : Int32, x.toInt = g 112 0 → W p l e R s m args below meth c H locs cells slots Q (F0 m (pc + 3) ls (.int x :: rest))) : W p l e R s m args below meth c H locs cells slots Q (F0 m pc ls (.ref a :: rest)) := by
  refine ty_get (Tb := TX9) (C := RX9) (N := 47) (ci := 9) (F := F9 Γ g) hx hb hA in_X9 hown hE.1 hG (by rw [ha]; decide) (fun x h => by rw [TP_30 ha] at h; exact h) rfl 12 (by decide) (hA _ hl) (fun _ h => h) hdg (fun v hv => ?_)
  have hv : vZ (g 112 0) v := hv; obtain ⟨x, rfl, h2⟩ := hv; exact kk x h2
theorem put_X9_12 (hx : p.tables.exec = Jvm.exec) (hb : c.code = cc) (hA : ∀ w ∈ AL, w.before args s = true) {own : String} {index : Nat} (hown : s.vm.findClass own = some m.cls) (hE : en dC dI dA sz s) (hG : ty_ok (dC, dI) vwCl Γ (TP dA Γ g) sz X H) (hS0 : va_S (ty_A sz) H0 H locs) (hU : Un Γ) (ha : (Γ a).1 = 30) (hl : Cond.fieldLink own index "WeekBankModel" "now" "I" ∈ AL) {x : Int32} (hdg : decode cc pc = .ok (.putfield index, 3)) (kk : ∀ (H1 : Heap) (locs1 : List Loc), ty_ok (dC, dI) vwCl Γ (TP dA Γ (gs g 112 0 x.toInt)) sz X H1 → va_S (ty_A sz) H0 H1 locs1 → W p l e R s m args below meth c H1 locs1 cells slots Q (F0 m (pc + 3) ls rest)) : W p l e R s m args below meth c H locs cells slots Q (F0 m pc ls (.int x :: .ref a :: rest)) :=
  ty_putG (T' := TP dA Γ (gs g 112 0 x.toInt)) (Tb := TX9) (C := RX9) (N := 47) (ci := 9) (F := F9 Γ g) (F' := F9 Γ (gs g 112 0 x.toInt)) hx hb hA in_X9 tyX9 tyX9_ok nmX9 hown hE.1 hG hS0 (by rw [ha]; decide) (fun x h => by rw [TP_30 ha] at h; exact h) (fun x h => by rw [TP_30 ha]; exact h) rfl 12 (by decide) (hA _ hl) (fun _ h => h) rfl (ty := .int) (tyX9_ok 12 (by decide)) (rfl) (rfl) (fun j hj hne v hv => by
    unfold F9 at hv ⊢
    by_cases e : mA j = true
    · rw [if_pos e] at hv ⊢; exact hv
    · rw [if_neg e] at hv ⊢; rw [gs_c _ _ _ _ (by omega)]; exact hv) (show vZ ((gs g 112 0 x.toInt) 112 0) (.int x) from ⟨x, rfl, (gs_self _ _ _ _).symm⟩) (fun b y hb h0 h => by
    by_cases e : (Γ b).1 = 112
    · rw [TP_m (k := 12) e] at h ⊢
      exact h.mono (fun f hf => ⟨fun j hj => absurd hj (Nat.not_lt_zero _), hf.2⟩)
    · exact TP_gs (by rw [show (112 : Nat) = 100 + 12 from rfl, dpt_m]; simp [hU.one ha rfl hb, e]) h) hdg kk
theorem get_X9_13 (hx : p.tables.exec = Jvm.exec) (hb : c.code = cc) (hA : ∀ w ∈ AL, w.before args s = true) {own : String} {index : Nat} (hown : s.vm.findClass own = some m.cls) (hE : en dC dI dA sz s) (hG : ty_ok (dC, dI) vwCl Γ (TP dA Γ g) sz X H) (ha : (Γ a).1 = 30) (hl : Cond.fieldLink own index "WeekBankModel" "tape" "[B" ∈ AL) (hdg : decode cc pc = .ok (.getfield index, 3)) (kk : ∀ b : Nat, (Γ b).1 = 113 → W p l e R s m args below meth c H locs cells slots Q (F0 m (pc + 3) ls (.ref b :: rest))) : W p l e R s m args below meth c H locs cells slots Q (F0 m pc ls (.ref a :: rest)) := by
  refine ty_get (Tb := TX9) (C := RX9) (N := 47) (ci := 9) (F := F9 Γ g) hx hb hA in_X9 hown hE.1 hG (by rw [ha]; decide) (fun x h => by rw [TP_30 ha] at h; exact h) rfl 13 (by decide) (hA _ hl) (fun _ h => h) hdg (fun v hv => ?_)
  have hv : vR Γ 113 v := hv; obtain ⟨b, rfl, h2⟩ := hv; exact kk b h2
theorem get_X9_14 (hx : p.tables.exec = Jvm.exec) (hb : c.code = cc) (hA : ∀ w ∈ AL, w.before args s = true) {own : String} {index : Nat} (hown : s.vm.findClass own = some m.cls) (hE : en dC dI dA sz s) (hG : ty_ok (dC, dI) vwCl Γ (TP dA Γ g) sz X H) (ha : (Γ a).1 = 30) (hl : Cond.fieldLink own index "WeekBankModel" "taped" "I" ∈ AL) (hdg : decode cc pc = .ok (.getfield index, 3)) (kk : ∀ x : Int32, x.toInt = g 114 0 → W p l e R s m args below meth c H locs cells slots Q (F0 m (pc + 3) ls (.int x :: rest))) : W p l e R s m args below meth c H locs cells slots Q (F0 m pc ls (.ref a :: rest)) := by
  refine ty_get (Tb := TX9) (C := RX9) (N := 47) (ci := 9) (F := F9 Γ g) hx hb hA in_X9 hown hE.1 hG (by rw [ha]; decide) (fun x h => by rw [TP_30 ha] at h; exact h) rfl 14 (by decide) (hA _ hl) (fun _ h => h) hdg (fun v hv => ?_)
  have hv : vZ (g 114 0) v := hv; obtain ⟨x, rfl, h2⟩ := hv; exact kk x h2
theorem put_X9_14 (hx : p.tables.exec = Jvm.exec) (hb : c.code = cc) (hA : ∀ w ∈ AL, w.before args s = true) {own : String} {index : Nat} (hown : s.vm.findClass own = some m.cls) (hE : en dC dI dA sz s) (hG : ty_ok (dC, dI) vwCl Γ (TP dA Γ g) sz X H) (hS0 : va_S (ty_A sz) H0 H locs) (hU : Un Γ) (ha : (Γ a).1 = 30) (hl : Cond.fieldLink own index "WeekBankModel" "taped" "I" ∈ AL) {x : Int32} (hdg : decode cc pc = .ok (.putfield index, 3)) (kk : ∀ (H1 : Heap) (locs1 : List Loc), ty_ok (dC, dI) vwCl Γ (TP dA Γ (gs g 114 0 x.toInt)) sz X H1 → va_S (ty_A sz) H0 H1 locs1 → W p l e R s m args below meth c H1 locs1 cells slots Q (F0 m (pc + 3) ls rest)) : W p l e R s m args below meth c H locs cells slots Q (F0 m pc ls (.int x :: .ref a :: rest)) :=
  ty_putG (T' := TP dA Γ (gs g 114 0 x.toInt)) (Tb := TX9) (C := RX9) (N := 47) (ci := 9) (F := F9 Γ g) (F' := F9 Γ (gs g 114 0 x.toInt)) hx hb hA in_X9 tyX9 tyX9_ok nmX9 hown hE.1 hG hS0 (by rw [ha]; decide) (fun x h => by rw [TP_30 ha] at h; exact h) (fun x h => by rw [TP_30 ha]; exact h) rfl 14 (by decide) (hA _ hl) (fun _ h => h) rfl (ty := .int) (tyX9_ok 14 (by decide)) (rfl) (rfl) (fun j hj hne v hv => by
    unfold F9 at hv ⊢
    by_cases e : mA j = true
    · rw [if_pos e] at hv ⊢; exact hv
    · rw [if_neg e] at hv ⊢; rw [gs_c _ _ _ _ (by omega)]; exact hv) (show vZ ((gs g 114 0 x.toInt) 114 0) (.int x) from ⟨x, rfl, (gs_self _ _ _ _).symm⟩) (fun b y hb h0 h => by
    by_cases e : (Γ b).1 = 114
    · rw [TP_m (k := 14) e] at h ⊢
      exact h.mono (fun f hf => ⟨fun j hj => absurd hj (Nat.not_lt_zero _), hf.2⟩)
    · exact TP_gs (by rw [show (114 : Nat) = 100 + 14 from rfl, dpt_m]; simp [hU.one ha rfl hb, e]) h) hdg kk
theorem get_X9_15 (hx : p.tables.exec = Jvm.exec) (hb : c.code = cc) (hA : ∀ w ∈ AL, w.before args s = true) {own : String} {index : Nat} (hown : s.vm.findClass own = some m.cls) (hE : en dC dI dA sz s) (hG : ty_ok (dC, dI) vwCl Γ (TP dA Γ g) sz X H) (ha : (Γ a).1 = 30) (hl : Cond.fieldLink own index "WeekBankModel" "at" "I" ∈ AL) (hdg : decode cc pc = .ok (.getfield index, 3)) (kk : ∀ x : Int32, x.toInt = g 115 0 → W p l e R s m args below meth c H locs cells slots Q (F0 m (pc + 3) ls (.int x :: rest))) : W p l e R s m args below meth c H locs cells slots Q (F0 m pc ls (.ref a :: rest)) := by
  refine ty_get (Tb := TX9) (C := RX9) (N := 47) (ci := 9) (F := F9 Γ g) hx hb hA in_X9 hown hE.1 hG (by rw [ha]; decide) (fun x h => by rw [TP_30 ha] at h; exact h) rfl 15 (by decide) (hA _ hl) (fun _ h => h) hdg (fun v hv => ?_)
  have hv : vZ (g 115 0) v := hv; obtain ⟨x, rfl, h2⟩ := hv; exact kk x h2
theorem put_X9_15 (hx : p.tables.exec = Jvm.exec) (hb : c.code = cc) (hA : ∀ w ∈ AL, w.before args s = true) {own : String} {index : Nat} (hown : s.vm.findClass own = some m.cls) (hE : en dC dI dA sz s) (hG : ty_ok (dC, dI) vwCl Γ (TP dA Γ g) sz X H) (hS0 : va_S (ty_A sz) H0 H locs) (hU : Un Γ) (ha : (Γ a).1 = 30) (hl : Cond.fieldLink own index "WeekBankModel" "at" "I" ∈ AL) {x : Int32} (hdg : decode cc pc = .ok (.putfield index, 3)) (kk : ∀ (H1 : Heap) (locs1 : List Loc), ty_ok (dC, dI) vwCl Γ (TP dA Γ (gs g 115 0 x.toInt)) sz X H1 → va_S (ty_A sz) H0 H1 locs1 → W p l e R s m args below meth c H1 locs1 cells slots Q (F0 m (pc + 3) ls rest)) : W p l e R s m args below meth c H locs cells slots Q (F0 m pc ls (.int x :: .ref a :: rest)) :=
  ty_putG (T' := TP dA Γ (gs g 115 0 x.toInt)) (Tb := TX9) (C := RX9) (N := 47) (ci := 9) (F := F9 Γ g) (F' := F9 Γ (gs g 115 0 x.toInt)) hx hb hA in_X9 tyX9 tyX9_ok nmX9 hown hE.1 hG hS0 (by rw [ha]; decide) (fun x h => by rw [TP_30 ha] at h; exact h) (fun x h => by rw [TP_30 ha]; exact h) rfl 15 (by decide) (hA _ hl) (fun _ h => h) rfl (ty := .int) (tyX9_ok 15 (by decide)) (rfl) (rfl) (fun j hj hne v hv => by
    unfold F9 at hv ⊢
    by_cases e : mA j = true
    · rw [if_pos e] at hv ⊢; exact hv
    · rw [if_neg e] at hv ⊢; rw [gs_c _ _ _ _ (by omega)]; exact hv) (show vZ ((gs g 115 0 x.toInt) 115 0) (.int x) from ⟨x, rfl, (gs_self _ _ _ _).symm⟩) (fun b y hb h0 h => by
    by_cases e : (Γ b).1 = 115
    · rw [TP_m (k := 15) e] at h ⊢
      exact h.mono (fun f hf => ⟨fun j hj => absurd hj (Nat.not_lt_zero _), hf.2⟩)
    · exact TP_gs (by rw [show (115 : Nat) = 100 + 15 from rfl, dpt_m]; simp [hU.one ha rfl hb, e]) h) hdg kk
theorem get_X9_16 (hx : p.tables.exec = Jvm.exec) (hb : c.code = cc) (hA : ∀ w ∈ AL, w.before args s = true) {own : String} {index : Nat} (hown : s.vm.findClass own = some m.cls) (hE : en dC dI dA sz s) (hG : ty_ok (dC, dI) vwCl Γ (TP dA Γ g) sz X H) (ha : (Γ a).1 = 30) (hl : Cond.fieldLink own index "WeekBankModel" "place" "I" ∈ AL) (hdg : decode cc pc = .ok (.getfield index, 3)) (kk : ∀ x : Int32, x.toInt = g 116 0 → W p l e R s m args below meth c H locs cells slots Q (F0 m (pc + 3) ls (.int x :: rest))) : W p l e R s m args below meth c H locs cells slots Q (F0 m pc ls (.ref a :: rest)) := by
  refine ty_get (Tb := TX9) (C := RX9) (N := 47) (ci := 9) (F := F9 Γ g) hx hb hA in_X9 hown hE.1 hG (by rw [ha]; decide) (fun x h => by rw [TP_30 ha] at h; exact h) rfl 16 (by decide) (hA _ hl) (fun _ h => h) hdg (fun v hv => ?_)
  have hv : vZ (g 116 0) v := hv; obtain ⟨x, rfl, h2⟩ := hv; exact kk x h2
theorem put_X9_16 (hx : p.tables.exec = Jvm.exec) (hb : c.code = cc) (hA : ∀ w ∈ AL, w.before args s = true) {own : String} {index : Nat} (hown : s.vm.findClass own = some m.cls) (hE : en dC dI dA sz s) (hG : ty_ok (dC, dI) vwCl Γ (TP dA Γ g) sz X H) (hS0 : va_S (ty_A sz) H0 H locs) (hU : Un Γ) (ha : (Γ a).1 = 30) (hl : Cond.fieldLink own index "WeekBankModel" "place" "I" ∈ AL) {x : Int32} (hdg : decode cc pc = .ok (.putfield index, 3)) (kk : ∀ (H1 : Heap) (locs1 : List Loc), ty_ok (dC, dI) vwCl Γ (TP dA Γ (gs g 116 0 x.toInt)) sz X H1 → va_S (ty_A sz) H0 H1 locs1 → W p l e R s m args below meth c H1 locs1 cells slots Q (F0 m (pc + 3) ls rest)) : W p l e R s m args below meth c H locs cells slots Q (F0 m pc ls (.int x :: .ref a :: rest)) :=
  ty_putG (T' := TP dA Γ (gs g 116 0 x.toInt)) (Tb := TX9) (C := RX9) (N := 47) (ci := 9) (F := F9 Γ g) (F' := F9 Γ (gs g 116 0 x.toInt)) hx hb hA in_X9 tyX9 tyX9_ok nmX9 hown hE.1 hG hS0 (by rw [ha]; decide) (fun x h => by rw [TP_30 ha] at h; exact h) (fun x h => by rw [TP_30 ha]; exact h) rfl 16 (by decide) (hA _ hl) (fun _ h => h) rfl (ty := .int) (tyX9_ok 16 (by decide)) (rfl) (rfl) (fun j hj hne v hv => by
    unfold F9 at hv ⊢
    by_cases e : mA j = true
    · rw [if_pos e] at hv ⊢; exact hv
    · rw [if_neg e] at hv ⊢; rw [gs_c _ _ _ _ (by omega)]; exact hv) (show vZ ((gs g 116 0 x.toInt) 116 0) (.int x) from ⟨x, rfl, (gs_self _ _ _ _).symm⟩) (fun b y hb h0 h => by
    by_cases e : (Γ b).1 = 116
    · rw [TP_m (k := 16) e] at h ⊢
      exact h.mono (fun f hf => ⟨fun j hj => absurd hj (Nat.not_lt_zero _), hf.2⟩)
    · exact TP_gs (by rw [show (116 : Nat) = 100 + 16 from rfl, dpt_m]; simp [hU.one ha rfl hb, e]) h) hdg kk
theorem get_X9_17 (hx : p.tables.exec = Jvm.exec) (hb : c.code = cc) (hA : ∀ w ∈ AL, w.before args s = true) {own : String} {index : Nat} (hown : s.vm.findClass own = some m.cls) (hE : en dC dI dA sz s) (hG : ty_ok (dC, dI) vwCl Γ (TP dA Γ g) sz X H) (ha : (Γ a).1 = 30) (hl : Cond.fieldLink own index "WeekBankModel" "sort" "I" ∈ AL) (hdg : decode cc pc = .ok (.getfield index, 3)) (kk : ∀ x : Int32, x.toInt = g 117 0 → W p l e R s m args below meth c H locs cells slots Q (F0 m (pc + 3) ls (.int x :: rest))) : W p l e R s m args below meth c H locs cells slots Q (F0 m pc ls (.ref a :: rest)) := by
  refine ty_get (Tb := TX9) (C := RX9) (N := 47) (ci := 9) (F := F9 Γ g) hx hb hA in_X9 hown hE.1 hG (by rw [ha]; decide) (fun x h => by rw [TP_30 ha] at h; exact h) rfl 17 (by decide) (hA _ hl) (fun _ h => h) hdg (fun v hv => ?_)
  have hv : vZ (g 117 0) v := hv; obtain ⟨x, rfl, h2⟩ := hv; exact kk x h2
theorem put_X9_17 (hx : p.tables.exec = Jvm.exec) (hb : c.code = cc) (hA : ∀ w ∈ AL, w.before args s = true) {own : String} {index : Nat} (hown : s.vm.findClass own = some m.cls) (hE : en dC dI dA sz s) (hG : ty_ok (dC, dI) vwCl Γ (TP dA Γ g) sz X H) (hS0 : va_S (ty_A sz) H0 H locs) (hU : Un Γ) (ha : (Γ a).1 = 30) (hl : Cond.fieldLink own index "WeekBankModel" "sort" "I" ∈ AL) {x : Int32} (hdg : decode cc pc = .ok (.putfield index, 3)) (kk : ∀ (H1 : Heap) (locs1 : List Loc), ty_ok (dC, dI) vwCl Γ (TP dA Γ (gs g 117 0 x.toInt)) sz X H1 → va_S (ty_A sz) H0 H1 locs1 → W p l e R s m args below meth c H1 locs1 cells slots Q (F0 m (pc + 3) ls rest)) : W p l e R s m args below meth c H locs cells slots Q (F0 m pc ls (.int x :: .ref a :: rest)) :=
  ty_putG (T' := TP dA Γ (gs g 117 0 x.toInt)) (Tb := TX9) (C := RX9) (N := 47) (ci := 9) (F := F9 Γ g) (F' := F9 Γ (gs g 117 0 x.toInt)) hx hb hA in_X9 tyX9 tyX9_ok nmX9 hown hE.1 hG hS0 (by rw [ha]; decide) (fun x h => by rw [TP_30 ha] at h; exact h) (fun x h => by rw [TP_30 ha]; exact h) rfl 17 (by decide) (hA _ hl) (fun _ h => h) rfl (ty := .int) (tyX9_ok 17 (by decide)) (rfl) (rfl) (fun j hj hne v hv => by
    unfold F9 at hv ⊢
    by_cases e : mA j = true
    · rw [if_pos e] at hv ⊢; exact hv
    · rw [if_neg e] at hv ⊢; rw [gs_c _ _ _ _ (by omega)]; exact hv) (show vZ ((gs g 117 0 x.toInt) 117 0) (.int x) from ⟨x, rfl, (gs_self _ _ _ _).symm⟩) (fun b y hb h0 h => by
    by_cases e : (Γ b).1 = 117
    · rw [TP_m (k := 17) e] at h ⊢
      exact h.mono (fun f hf => ⟨fun j hj => absurd hj (Nat.not_lt_zero _), hf.2⟩)
    · exact TP_gs (by rw [show (117 : Nat) = 100 + 17 from rfl, dpt_m]; simp [hU.one ha rfl hb, e]) h) hdg kk
theorem get_X9_18 (hx : p.tables.exec = Jvm.exec) (hb : c.code = cc) (hA : ∀ w ∈ AL, w.before args s = true) {own : String} {index : Nat} (hown : s.vm.findClass own = some m.cls) (hE : en dC dI dA sz s) (hG : ty_ok (dC, dI) vwCl Γ (TP dA Γ g) sz X H) (ha : (Γ a).1 = 30) (hl : Cond.fieldLink own index "WeekBankModel" "value" "I" ∈ AL) (hdg : decode cc pc = .ok (.getfield index, 3)) (kk : ∀ x : Int32, x.toInt = g 118 0 → W p l e R s m args below meth c H locs cells slots Q (F0 m (pc + 3) ls (.int x :: rest))) : W p l e R s m args below meth c H locs cells slots Q (F0 m pc ls (.ref a :: rest)) := by
  refine ty_get (Tb := TX9) (C := RX9) (N := 47) (ci := 9) (F := F9 Γ g) hx hb hA in_X9 hown hE.1 hG (by rw [ha]; decide) (fun x h => by rw [TP_30 ha] at h; exact h) rfl 18 (by decide) (hA _ hl) (fun _ h => h) hdg (fun v hv => ?_)
  have hv : vZ (g 118 0) v := hv; obtain ⟨x, rfl, h2⟩ := hv; exact kk x h2
theorem put_X9_18 (hx : p.tables.exec = Jvm.exec) (hb : c.code = cc) (hA : ∀ w ∈ AL, w.before args s = true) {own : String} {index : Nat} (hown : s.vm.findClass own = some m.cls) (hE : en dC dI dA sz s) (hG : ty_ok (dC, dI) vwCl Γ (TP dA Γ g) sz X H) (hS0 : va_S (ty_A sz) H0 H locs) (hU : Un Γ) (ha : (Γ a).1 = 30) (hl : Cond.fieldLink own index "WeekBankModel" "value" "I" ∈ AL) {x : Int32} (hdg : decode cc pc = .ok (.putfield index, 3)) (kk : ∀ (H1 : Heap) (locs1 : List Loc), ty_ok (dC, dI) vwCl Γ (TP dA Γ (gs g 118 0 x.toInt)) sz X H1 → va_S (ty_A sz) H0 H1 locs1 → W p l e R s m args below meth c H1 locs1 cells slots Q (F0 m (pc + 3) ls rest)) : W p l e R s m args below meth c H locs cells slots Q (F0 m pc ls (.int x :: .ref a :: rest)) :=
  ty_putG (T' := TP dA Γ (gs g 118 0 x.toInt)) (Tb := TX9) (C := RX9) (N := 47) (ci := 9) (F := F9 Γ g) (F' := F9 Γ (gs g 118 0 x.toInt)) hx hb hA in_X9 tyX9 tyX9_ok nmX9 hown hE.1 hG hS0 (by rw [ha]; decide) (fun x h => by rw [TP_30 ha] at h; exact h) (fun x h => by rw [TP_30 ha]; exact h) rfl 18 (by decide) (hA _ hl) (fun _ h => h) rfl (ty := .int) (tyX9_ok 18 (by decide)) (rfl) (rfl) (fun j hj hne v hv => by
    unfold F9 at hv ⊢
    by_cases e : mA j = true
    · rw [if_pos e] at hv ⊢; exact hv
    · rw [if_neg e] at hv ⊢; rw [gs_c _ _ _ _ (by omega)]; exact hv) (show vZ ((gs g 118 0 x.toInt) 118 0) (.int x) from ⟨x, rfl, (gs_self _ _ _ _).symm⟩) (fun b y hb h0 h => by
    by_cases e : (Γ b).1 = 118
    · rw [TP_m (k := 18) e] at h ⊢
      exact h.mono (fun f hf => ⟨fun j hj => absurd hj (Nat.not_lt_zero _), hf.2⟩)
    · exact TP_gs (by rw [show (118 : Nat) = 100 + 18 from rfl, dpt_m]; simp [hU.one ha rfl hb, e]) h) hdg kk
theorem get_X9_19 (hx : p.tables.exec = Jvm.exec) (hb : c.code = cc) (hA : ∀ w ∈ AL, w.before args s = true) {own : String} {index : Nat} (hown : s.vm.findClass own = some m.cls) (hE : en dC dI dA sz s) (hG : ty_ok (dC, dI) vwCl Γ (TP dA Γ g) sz X H) (ha : (Γ a).1 = 30) (hl : Cond.fieldLink own index "WeekBankModel" "fault" "I" ∈ AL) (hdg : decode cc pc = .ok (.getfield index, 3)) (kk : ∀ x : Int32, x.toInt = g 119 0 → W p l e R s m args below meth c H locs cells slots Q (F0 m (pc + 3) ls (.int x :: rest))) : W p l e R s m args below meth c H locs cells slots Q (F0 m pc ls (.ref a :: rest)) := by
  refine ty_get (Tb := TX9) (C := RX9) (N := 47) (ci := 9) (F := F9 Γ g) hx hb hA in_X9 hown hE.1 hG (by rw [ha]; decide) (fun x h => by rw [TP_30 ha] at h; exact h) rfl 19 (by decide) (hA _ hl) (fun _ h => h) hdg (fun v hv => ?_)
  have hv : vZ (g 119 0) v := hv; obtain ⟨x, rfl, h2⟩ := hv; exact kk x h2
theorem put_X9_19 (hx : p.tables.exec = Jvm.exec) (hb : c.code = cc) (hA : ∀ w ∈ AL, w.before args s = true) {own : String} {index : Nat} (hown : s.vm.findClass own = some m.cls) (hE : en dC dI dA sz s) (hG : ty_ok (dC, dI) vwCl Γ (TP dA Γ g) sz X H) (hS0 : va_S (ty_A sz) H0 H locs) (hU : Un Γ) (ha : (Γ a).1 = 30) (hl : Cond.fieldLink own index "WeekBankModel" "fault" "I" ∈ AL) {x : Int32} (hdg : decode cc pc = .ok (.putfield index, 3)) (kk : ∀ (H1 : Heap) (locs1 : List Loc), ty_ok (dC, dI) vwCl Γ (TP dA Γ (gs g 119 0 x.toInt)) sz X H1 → va_S (ty_A sz) H0 H1 locs1 → W p l e R s m args below meth c H1 locs1 cells slots Q (F0 m (pc + 3) ls rest)) : W p l e R s m args below meth c H locs cells slots Q (F0 m pc ls (.int x :: .ref a :: rest)) :=
  ty_putG (T' := TP dA Γ (gs g 119 0 x.toInt)) (Tb := TX9) (C := RX9) (N := 47) (ci := 9) (F := F9 Γ g) (F' := F9 Γ (gs g 119 0 x.toInt)) hx hb hA in_X9 tyX9 tyX9_ok nmX9 hown hE.1 hG hS0 (by rw [ha]; decide) (fun x h => by rw [TP_30 ha] at h; exact h) (fun x h => by rw [TP_30 ha]; exact h) rfl 19 (by decide) (hA _ hl) (fun _ h => h) rfl (ty := .int) (tyX9_ok 19 (by decide)) (rfl) (rfl) (fun j hj hne v hv => by
    unfold F9 at hv ⊢
    by_cases e : mA j = true
    · rw [if_pos e] at hv ⊢; exact hv
    · rw [if_neg e] at hv ⊢; rw [gs_c _ _ _ _ (by omega)]; exact hv) (show vZ ((gs g 119 0 x.toInt) 119 0) (.int x) from ⟨x, rfl, (gs_self _ _ _ _).symm⟩) (fun b y hb h0 h => by
    by_cases e : (Γ b).1 = 119
    · rw [TP_m (k := 19) e] at h ⊢
      exact h.mono (fun f hf => ⟨fun j hj => absurd hj (Nat.not_lt_zero _), hf.2⟩)
    · exact TP_gs (by rw [show (119 : Nat) = 100 + 19 from rfl, dpt_m]; simp [hU.one ha rfl hb, e]) h) hdg kk
theorem get_X9_20 (hx : p.tables.exec = Jvm.exec) (hb : c.code = cc) (hA : ∀ w ∈ AL, w.before args s = true) {own : String} {index : Nat} (hown : s.vm.findClass own = some m.cls) (hE : en dC dI dA sz s) (hG : ty_ok (dC, dI) vwCl Γ (TP dA Γ g) sz X H) (ha : (Γ a).1 = 30) (hl : Cond.fieldLink own index "WeekBankModel" "faultPlace" "I" ∈ AL) (hdg : decode cc pc = .ok (.getfield index, 3)) (kk : ∀ x : Int32, x.toInt = g 120 0 → W p l e R s m args below meth c H locs cells slots Q (F0 m (pc + 3) ls (.int x :: rest))) : W p l e R s m args below meth c H locs cells slots Q (F0 m pc ls (.ref a :: rest)) := by
  refine ty_get (Tb := TX9) (C := RX9) (N := 47) (ci := 9) (F := F9 Γ g) hx hb hA in_X9 hown hE.1 hG (by rw [ha]; decide) (fun x h => by rw [TP_30 ha] at h; exact h) rfl 20 (by decide) (hA _ hl) (fun _ h => h) hdg (fun v hv => ?_)
  have hv : vZ (g 120 0) v := hv; obtain ⟨x, rfl, h2⟩ := hv; exact kk x h2
theorem put_X9_20 (hx : p.tables.exec = Jvm.exec) (hb : c.code = cc) (hA : ∀ w ∈ AL, w.before args s = true) {own : String} {index : Nat} (hown : s.vm.findClass own = some m.cls) (hE : en dC dI dA sz s) (hG : ty_ok (dC, dI) vwCl Γ (TP dA Γ g) sz X H) (hS0 : va_S (ty_A sz) H0 H locs) (hU : Un Γ) (ha : (Γ a).1 = 30) (hl : Cond.fieldLink own index "WeekBankModel" "faultPlace" "I" ∈ AL) {x : Int32} (hdg : decode cc pc = .ok (.putfield index, 3)) (kk : ∀ (H1 : Heap) (locs1 : List Loc), ty_ok (dC, dI) vwCl Γ (TP dA Γ (gs g 120 0 x.toInt)) sz X H1 → va_S (ty_A sz) H0 H1 locs1 → W p l e R s m args below meth c H1 locs1 cells slots Q (F0 m (pc + 3) ls rest)) : W p l e R s m args below meth c H locs cells slots Q (F0 m pc ls (.int x :: .ref a :: rest)) :=
  ty_putG (T' := TP dA Γ (gs g 120 0 x.toInt)) (Tb := TX9) (C := RX9) (N := 47) (ci := 9) (F := F9 Γ g) (F' := F9 Γ (gs g 120 0 x.toInt)) hx hb hA in_X9 tyX9 tyX9_ok nmX9 hown hE.1 hG hS0 (by rw [ha]; decide) (fun x h => by rw [TP_30 ha] at h; exact h) (fun x h => by rw [TP_30 ha]; exact h) rfl 20 (by decide) (hA _ hl) (fun _ h => h) rfl (ty := .int) (tyX9_ok 20 (by decide)) (rfl) (rfl) (fun j hj hne v hv => by
    unfold F9 at hv ⊢
    by_cases e : mA j = true
    · rw [if_pos e] at hv ⊢; exact hv
    · rw [if_neg e] at hv ⊢; rw [gs_c _ _ _ _ (by omega)]; exact hv) (show vZ ((gs g 120 0 x.toInt) 120 0) (.int x) from ⟨x, rfl, (gs_self _ _ _ _).symm⟩) (fun b y hb h0 h => by
    by_cases e : (Γ b).1 = 120
    · rw [TP_m (k := 20) e] at h ⊢
      exact h.mono (fun f hf => ⟨fun j hj => absurd hj (Nat.not_lt_zero _), hf.2⟩)
    · exact TP_gs (by rw [show (120 : Nat) = 100 + 20 from rfl, dpt_m]; simp [hU.one ha rfl hb, e]) h) hdg kk
theorem get_X9_21 (hx : p.tables.exec = Jvm.exec) (hb : c.code = cc) (hA : ∀ w ∈ AL, w.before args s = true) {own : String} {index : Nat} (hown : s.vm.findClass own = some m.cls) (hE : en dC dI dA sz s) (hG : ty_ok (dC, dI) vwCl Γ (TP dA Γ g) sz X H) (ha : (Γ a).1 = 30) (hl : Cond.fieldLink own index "WeekBankModel" "lastPlace" "I" ∈ AL) (hdg : decode cc pc = .ok (.getfield index, 3)) (kk : ∀ x : Int32, x.toInt = g 121 0 → W p l e R s m args below meth c H locs cells slots Q (F0 m (pc + 3) ls (.int x :: rest))) : W p l e R s m args below meth c H locs cells slots Q (F0 m pc ls (.ref a :: rest)) := by
  refine ty_get (Tb := TX9) (C := RX9) (N := 47) (ci := 9) (F := F9 Γ g) hx hb hA in_X9 hown hE.1 hG (by rw [ha]; decide) (fun x h => by rw [TP_30 ha] at h; exact h) rfl 21 (by decide) (hA _ hl) (fun _ h => h) hdg (fun v hv => ?_)
  have hv : vZ (g 121 0) v := hv; obtain ⟨x, rfl, h2⟩ := hv; exact kk x h2
theorem put_X9_21 (hx : p.tables.exec = Jvm.exec) (hb : c.code = cc) (hA : ∀ w ∈ AL, w.before args s = true) {own : String} {index : Nat} (hown : s.vm.findClass own = some m.cls) (hE : en dC dI dA sz s) (hG : ty_ok (dC, dI) vwCl Γ (TP dA Γ g) sz X H) (hS0 : va_S (ty_A sz) H0 H locs) (hU : Un Γ) (ha : (Γ a).1 = 30) (hl : Cond.fieldLink own index "WeekBankModel" "lastPlace" "I" ∈ AL) {x : Int32} (hdg : decode cc pc = .ok (.putfield index, 3)) (kk : ∀ (H1 : Heap) (locs1 : List Loc), ty_ok (dC, dI) vwCl Γ (TP dA Γ (gs g 121 0 x.toInt)) sz X H1 → va_S (ty_A sz) H0 H1 locs1 → W p l e R s m args below meth c H1 locs1 cells slots Q (F0 m (pc + 3) ls rest)) : W p l e R s m args below meth c H locs cells slots Q (F0 m pc ls (.int x :: .ref a :: rest)) :=
  ty_putG (T' := TP dA Γ (gs g 121 0 x.toInt)) (Tb := TX9) (C := RX9) (N := 47) (ci := 9) (F := F9 Γ g) (F' := F9 Γ (gs g 121 0 x.toInt)) hx hb hA in_X9 tyX9 tyX9_ok nmX9 hown hE.1 hG hS0 (by rw [ha]; decide) (fun x h => by rw [TP_30 ha] at h; exact h) (fun x h => by rw [TP_30 ha]; exact h) rfl 21 (by decide) (hA _ hl) (fun _ h => h) rfl (ty := .int) (tyX9_ok 21 (by decide)) (rfl) (rfl) (fun j hj hne v hv => by
    unfold F9 at hv ⊢
    by_cases e : mA j = true
    · rw [if_pos e] at hv ⊢; exact hv
    · rw [if_neg e] at hv ⊢; rw [gs_c _ _ _ _ (by omega)]; exact hv) (show vZ ((gs g 121 0 x.toInt) 121 0) (.int x) from ⟨x, rfl, (gs_self _ _ _ _).symm⟩) (fun b y hb h0 h => by
    by_cases e : (Γ b).1 = 121
    · rw [TP_m (k := 21) e] at h ⊢
      exact h.mono (fun f hf => ⟨fun j hj => absurd hj (Nat.not_lt_zero _), hf.2⟩)
    · exact TP_gs (by rw [show (121 : Nat) = 100 + 21 from rfl, dpt_m]; simp [hU.one ha rfl hb, e]) h) hdg kk
theorem get_X9_22 (hx : p.tables.exec = Jvm.exec) (hb : c.code = cc) (hA : ∀ w ∈ AL, w.before args s = true) {own : String} {index : Nat} (hown : s.vm.findClass own = some m.cls) (hE : en dC dI dA sz s) (hG : ty_ok (dC, dI) vwCl Γ (TP dA Γ g) sz X H) (ha : (Γ a).1 = 30) (hl : Cond.fieldLink own index "WeekBankModel" "statements" "I" ∈ AL) (hdg : decode cc pc = .ok (.getfield index, 3)) (kk : ∀ x : Int32, x.toInt = g 122 0 → W p l e R s m args below meth c H locs cells slots Q (F0 m (pc + 3) ls (.int x :: rest))) : W p l e R s m args below meth c H locs cells slots Q (F0 m pc ls (.ref a :: rest)) := by
  refine ty_get (Tb := TX9) (C := RX9) (N := 47) (ci := 9) (F := F9 Γ g) hx hb hA in_X9 hown hE.1 hG (by rw [ha]; decide) (fun x h => by rw [TP_30 ha] at h; exact h) rfl 22 (by decide) (hA _ hl) (fun _ h => h) hdg (fun v hv => ?_)
  have hv : vZ (g 122 0) v := hv; obtain ⟨x, rfl, h2⟩ := hv; exact kk x h2
theorem put_X9_22 (hx : p.tables.exec = Jvm.exec) (hb : c.code = cc) (hA : ∀ w ∈ AL, w.before args s = true) {own : String} {index : Nat} (hown : s.vm.findClass own = some m.cls) (hE : en dC dI dA sz s) (hG : ty_ok (dC, dI) vwCl Γ (TP dA Γ g) sz X H) (hS0 : va_S (ty_A sz) H0 H locs) (hU : Un Γ) (ha : (Γ a).1 = 30) (hl : Cond.fieldLink own index "WeekBankModel" "statements" "I" ∈ AL) {x : Int32} (hdg : decode cc pc = .ok (.putfield index, 3)) (kk : ∀ (H1 : Heap) (locs1 : List Loc), ty_ok (dC, dI) vwCl Γ (TP dA Γ (gs g 122 0 x.toInt)) sz X H1 → va_S (ty_A sz) H0 H1 locs1 → W p l e R s m args below meth c H1 locs1 cells slots Q (F0 m (pc + 3) ls rest)) : W p l e R s m args below meth c H locs cells slots Q (F0 m pc ls (.int x :: .ref a :: rest)) :=
  ty_putG (T' := TP dA Γ (gs g 122 0 x.toInt)) (Tb := TX9) (C := RX9) (N := 47) (ci := 9) (F := F9 Γ g) (F' := F9 Γ (gs g 122 0 x.toInt)) hx hb hA in_X9 tyX9 tyX9_ok nmX9 hown hE.1 hG hS0 (by rw [ha]; decide) (fun x h => by rw [TP_30 ha] at h; exact h) (fun x h => by rw [TP_30 ha]; exact h) rfl 22 (by decide) (hA _ hl) (fun _ h => h) rfl (ty := .int) (tyX9_ok 22 (by decide)) (rfl) (rfl) (fun j hj hne v hv => by
    unfold F9 at hv ⊢
    by_cases e : mA j = true
    · rw [if_pos e] at hv ⊢; exact hv
    · rw [if_neg e] at hv ⊢; rw [gs_c _ _ _ _ (by omega)]; exact hv) (show vZ ((gs g 122 0 x.toInt) 122 0) (.int x) from ⟨x, rfl, (gs_self _ _ _ _).symm⟩) (fun b y hb h0 h => by
    by_cases e : (Γ b).1 = 122
    · rw [TP_m (k := 22) e] at h ⊢
      exact h.mono (fun f hf => ⟨fun j hj => absurd hj (Nat.not_lt_zero _), hf.2⟩)
    · exact TP_gs (by rw [show (122 : Nat) = 100 + 22 from rfl, dpt_m]; simp [hU.one ha rfl hb, e]) h) hdg kk
theorem get_X9_23 (hx : p.tables.exec = Jvm.exec) (hb : c.code = cc) (hA : ∀ w ∈ AL, w.before args s = true) {own : String} {index : Nat} (hown : s.vm.findClass own = some m.cls) (hE : en dC dI dA sz s) (hG : ty_ok (dC, dI) vwCl Γ (TP dA Γ g) sz X H) (ha : (Γ a).1 = 30) (hl : Cond.fieldLink own index "WeekBankModel" "statement" "[I" ∈ AL) (hdg : decode cc pc = .ok (.getfield index, 3)) (kk : ∀ b : Nat, (Γ b).1 = 123 → W p l e R s m args below meth c H locs cells slots Q (F0 m (pc + 3) ls (.ref b :: rest))) : W p l e R s m args below meth c H locs cells slots Q (F0 m pc ls (.ref a :: rest)) := by
  refine ty_get (Tb := TX9) (C := RX9) (N := 47) (ci := 9) (F := F9 Γ g) hx hb hA in_X9 hown hE.1 hG (by rw [ha]; decide) (fun x h => by rw [TP_30 ha] at h; exact h) rfl 23 (by decide) (hA _ hl) (fun _ h => h) hdg (fun v hv => ?_)
  have hv : vR Γ 123 v := hv; obtain ⟨b, rfl, h2⟩ := hv; exact kk b h2
theorem get_X9_24 (hx : p.tables.exec = Jvm.exec) (hb : c.code = cc) (hA : ∀ w ∈ AL, w.before args s = true) {own : String} {index : Nat} (hown : s.vm.findClass own = some m.cls) (hE : en dC dI dA sz s) (hG : ty_ok (dC, dI) vwCl Γ (TP dA Γ g) sz X H) (ha : (Γ a).1 = 30) (hl : Cond.fieldLink own index "WeekBankModel" "newStatements" "I" ∈ AL) (hdg : decode cc pc = .ok (.getfield index, 3)) (kk : ∀ x : Int32, x.toInt = g 124 0 → W p l e R s m args below meth c H locs cells slots Q (F0 m (pc + 3) ls (.int x :: rest))) : W p l e R s m args below meth c H locs cells slots Q (F0 m pc ls (.ref a :: rest)) := by
  refine ty_get (Tb := TX9) (C := RX9) (N := 47) (ci := 9) (F := F9 Γ g) hx hb hA in_X9 hown hE.1 hG (by rw [ha]; decide) (fun x h => by rw [TP_30 ha] at h; exact h) rfl 24 (by decide) (hA _ hl) (fun _ h => h) hdg (fun v hv => ?_)
  have hv : vZ (g 124 0) v := hv; obtain ⟨x, rfl, h2⟩ := hv; exact kk x h2
theorem put_X9_24 (hx : p.tables.exec = Jvm.exec) (hb : c.code = cc) (hA : ∀ w ∈ AL, w.before args s = true) {own : String} {index : Nat} (hown : s.vm.findClass own = some m.cls) (hE : en dC dI dA sz s) (hG : ty_ok (dC, dI) vwCl Γ (TP dA Γ g) sz X H) (hS0 : va_S (ty_A sz) H0 H locs) (hU : Un Γ) (ha : (Γ a).1 = 30) (hl : Cond.fieldLink own index "WeekBankModel" "newStatements" "I" ∈ AL) {x : Int32} (hdg : decode cc pc = .ok (.putfield index, 3)) (kk : ∀ (H1 : Heap) (locs1 : List Loc), ty_ok (dC, dI) vwCl Γ (TP dA Γ (gs g 124 0 x.toInt)) sz X H1 → va_S (ty_A sz) H0 H1 locs1 → W p l e R s m args below meth c H1 locs1 cells slots Q (F0 m (pc + 3) ls rest)) : W p l e R s m args below meth c H locs cells slots Q (F0 m pc ls (.int x :: .ref a :: rest)) :=
  ty_putG (T' := TP dA Γ (gs g 124 0 x.toInt)) (Tb := TX9) (C := RX9) (N := 47) (ci := 9) (F := F9 Γ g) (F' := F9 Γ (gs g 124 0 x.toInt)) hx hb hA in_X9 tyX9 tyX9_ok nmX9 hown hE.1 hG hS0 (by rw [ha]; decide) (fun x h => by rw [TP_30 ha] at h; exact h) (fun x h => by rw [TP_30 ha]; exact h) rfl 24 (by decide) (hA _ hl) (fun _ h => h) rfl (ty := .int) (tyX9_ok 24 (by decide)) (rfl) (rfl) (fun j hj hne v hv => by
    unfold F9 at hv ⊢
    by_cases e : mA j = true
    · rw [if_pos e] at hv ⊢; exact hv
    · rw [if_neg e] at hv ⊢; rw [gs_c _ _ _ _ (by omega)]; exact hv) (show vZ ((gs g 124 0 x.toInt) 124 0) (.int x) from ⟨x, rfl, (gs_self _ _ _ _).symm⟩) (fun b y hb h0 h => by
    by_cases e : (Γ b).1 = 124
    · rw [TP_m (k := 24) e] at h ⊢
      exact h.mono (fun f hf => ⟨fun j hj => absurd hj (Nat.not_lt_zero _), hf.2⟩)
    · exact TP_gs (by rw [show (124 : Nat) = 100 + 24 from rfl, dpt_m]; simp [hU.one ha rfl hb, e]) h) hdg kk
theorem get_X9_25 (hx : p.tables.exec = Jvm.exec) (hb : c.code = cc) (hA : ∀ w ∈ AL, w.before args s = true) {own : String} {index : Nat} (hown : s.vm.findClass own = some m.cls) (hE : en dC dI dA sz s) (hG : ty_ok (dC, dI) vwCl Γ (TP dA Γ g) sz X H) (ha : (Γ a).1 = 30) (hl : Cond.fieldLink own index "WeekBankModel" "newStatement" "[I" ∈ AL) (hdg : decode cc pc = .ok (.getfield index, 3)) (kk : ∀ b : Nat, (Γ b).1 = 125 → W p l e R s m args below meth c H locs cells slots Q (F0 m (pc + 3) ls (.ref b :: rest))) : W p l e R s m args below meth c H locs cells slots Q (F0 m pc ls (.ref a :: rest)) := by
  refine ty_get (Tb := TX9) (C := RX9) (N := 47) (ci := 9) (F := F9 Γ g) hx hb hA in_X9 hown hE.1 hG (by rw [ha]; decide) (fun x h => by rw [TP_30 ha] at h; exact h) rfl 25 (by decide) (hA _ hl) (fun _ h => h) hdg (fun v hv => ?_)
  have hv : vR Γ 125 v := hv; obtain ⟨b, rfl, h2⟩ := hv; exact kk b h2
theorem get_X9_26 (hx : p.tables.exec = Jvm.exec) (hb : c.code = cc) (hA : ∀ w ∈ AL, w.before args s = true) {own : String} {index : Nat} (hown : s.vm.findClass own = some m.cls) (hE : en dC dI dA sz s) (hG : ty_ok (dC, dI) vwCl Γ (TP dA Γ g) sz X H) (ha : (Γ a).1 = 30) (hl : Cond.fieldLink own index "WeekBankModel" "gifts" "I" ∈ AL) (hdg : decode cc pc = .ok (.getfield index, 3)) (kk : ∀ x : Int32, x.toInt = g 126 0 → W p l e R s m args below meth c H locs cells slots Q (F0 m (pc + 3) ls (.int x :: rest))) : W p l e R s m args below meth c H locs cells slots Q (F0 m pc ls (.ref a :: rest)) := by
  refine ty_get (Tb := TX9) (C := RX9) (N := 47) (ci := 9) (F := F9 Γ g) hx hb hA in_X9 hown hE.1 hG (by rw [ha]; decide) (fun x h => by rw [TP_30 ha] at h; exact h) rfl 26 (by decide) (hA _ hl) (fun _ h => h) hdg (fun v hv => ?_)
  have hv : vZ (g 126 0) v := hv; obtain ⟨x, rfl, h2⟩ := hv; exact kk x h2
theorem put_X9_26 (hx : p.tables.exec = Jvm.exec) (hb : c.code = cc) (hA : ∀ w ∈ AL, w.before args s = true) {own : String} {index : Nat} (hown : s.vm.findClass own = some m.cls) (hE : en dC dI dA sz s) (hG : ty_ok (dC, dI) vwCl Γ (TP dA Γ g) sz X H) (hS0 : va_S (ty_A sz) H0 H locs) (hU : Un Γ) (ha : (Γ a).1 = 30) (hl : Cond.fieldLink own index "WeekBankModel" "gifts" "I" ∈ AL) {x : Int32} (hdg : decode cc pc = .ok (.putfield index, 3)) (kk : ∀ (H1 : Heap) (locs1 : List Loc), ty_ok (dC, dI) vwCl Γ (TP dA Γ (gs g 126 0 x.toInt)) sz X H1 → va_S (ty_A sz) H0 H1 locs1 → W p l e R s m args below meth c H1 locs1 cells slots Q (F0 m (pc + 3) ls rest)) : W p l e R s m args below meth c H locs cells slots Q (F0 m pc ls (.int x :: .ref a :: rest)) :=
  ty_putG (T' := TP dA Γ (gs g 126 0 x.toInt)) (Tb := TX9) (C := RX9) (N := 47) (ci := 9) (F := F9 Γ g) (F' := F9 Γ (gs g 126 0 x.toInt)) hx hb hA in_X9 tyX9 tyX9_ok nmX9 hown hE.1 hG hS0 (by rw [ha]; decide) (fun x h => by rw [TP_30 ha] at h; exact h) (fun x h => by rw [TP_30 ha]; exact h) rfl 26 (by decide) (hA _ hl) (fun _ h => h) rfl (ty := .int) (tyX9_ok 26 (by decide)) (rfl) (rfl) (fun j hj hne v hv => by
    unfold F9 at hv ⊢
    by_cases e : mA j = true
    · rw [if_pos e] at hv ⊢; exact hv
    · rw [if_neg e] at hv ⊢; rw [gs_c _ _ _ _ (by omega)]; exact hv) (show vZ ((gs g 126 0 x.toInt) 126 0) (.int x) from ⟨x, rfl, (gs_self _ _ _ _).symm⟩) (fun b y hb h0 h => by
    by_cases e : (Γ b).1 = 126
    · rw [TP_m (k := 26) e] at h ⊢
      exact h.mono (fun f hf => ⟨fun j hj => absurd hj (Nat.not_lt_zero _), hf.2⟩)
    · exact TP_gs (by rw [show (126 : Nat) = 100 + 26 from rfl, dpt_m]; simp [hU.one ha rfl hb, e]) h) hdg kk
theorem get_X9_27 (hx : p.tables.exec = Jvm.exec) (hb : c.code = cc) (hA : ∀ w ∈ AL, w.before args s = true) {own : String} {index : Nat} (hown : s.vm.findClass own = some m.cls) (hE : en dC dI dA sz s) (hG : ty_ok (dC, dI) vwCl Γ (TP dA Γ g) sz X H) (ha : (Γ a).1 = 30) (hl : Cond.fieldLink own index "WeekBankModel" "giver" "[I" ∈ AL) (hdg : decode cc pc = .ok (.getfield index, 3)) (kk : ∀ b : Nat, (Γ b).1 = 127 → W p l e R s m args below meth c H locs cells slots Q (F0 m (pc + 3) ls (.ref b :: rest))) : W p l e R s m args below meth c H locs cells slots Q (F0 m pc ls (.ref a :: rest)) := by
  refine ty_get (Tb := TX9) (C := RX9) (N := 47) (ci := 9) (F := F9 Γ g) hx hb hA in_X9 hown hE.1 hG (by rw [ha]; decide) (fun x h => by rw [TP_30 ha] at h; exact h) rfl 27 (by decide) (hA _ hl) (fun _ h => h) hdg (fun v hv => ?_)
  have hv : vR Γ 127 v := hv; obtain ⟨b, rfl, h2⟩ := hv; exact kk b h2
theorem get_X9_28 (hx : p.tables.exec = Jvm.exec) (hb : c.code = cc) (hA : ∀ w ∈ AL, w.before args s = true) {own : String} {index : Nat} (hown : s.vm.findClass own = some m.cls) (hE : en dC dI dA sz s) (hG : ty_ok (dC, dI) vwCl Γ (TP dA Γ g) sz X H) (ha : (Γ a).1 = 30) (hl : Cond.fieldLink own index "WeekBankModel" "giftFlat" "[I" ∈ AL) (hdg : decode cc pc = .ok (.getfield index, 3)) (kk : ∀ b : Nat, (Γ b).1 = 128 → W p l e R s m args below meth c H locs cells slots Q (F0 m (pc + 3) ls (.ref b :: rest))) : W p l e R s m args below meth c H locs cells slots Q (F0 m pc ls (.ref a :: rest)) := by
  refine ty_get (Tb := TX9) (C := RX9) (N := 47) (ci := 9) (F := F9 Γ g) hx hb hA in_X9 hown hE.1 hG (by rw [ha]; decide) (fun x h => by rw [TP_30 ha] at h; exact h) rfl 28 (by decide) (hA _ hl) (fun _ h => h) hdg (fun v hv => ?_)
  have hv : vR Γ 128 v := hv; obtain ⟨b, rfl, h2⟩ := hv; exact kk b h2
theorem get_X9_29 (hx : p.tables.exec = Jvm.exec) (hb : c.code = cc) (hA : ∀ w ∈ AL, w.before args s = true) {own : String} {index : Nat} (hown : s.vm.findClass own = some m.cls) (hE : en dC dI dA sz s) (hG : ty_ok (dC, dI) vwCl Γ (TP dA Γ g) sz X H) (ha : (Γ a).1 = 30) (hl : Cond.fieldLink own index "WeekBankModel" "giftWeek" "[I" ∈ AL) (hdg : decode cc pc = .ok (.getfield index, 3)) (kk : ∀ b : Nat, (Γ b).1 = 129 → W p l e R s m args below meth c H locs cells slots Q (F0 m (pc + 3) ls (.ref b :: rest))) : W p l e R s m args below meth c H locs cells slots Q (F0 m pc ls (.ref a :: rest)) := by
  refine ty_get (Tb := TX9) (C := RX9) (N := 47) (ci := 9) (F := F9 Γ g) hx hb hA in_X9 hown hE.1 hG (by rw [ha]; decide) (fun x h => by rw [TP_30 ha] at h; exact h) rfl 29 (by decide) (hA _ hl) (fun _ h => h) hdg (fun v hv => ?_)
  have hv : vR Γ 129 v := hv; obtain ⟨b, rfl, h2⟩ := hv; exact kk b h2
theorem get_X9_30 (hx : p.tables.exec = Jvm.exec) (hb : c.code = cc) (hA : ∀ w ∈ AL, w.before args s = true) {own : String} {index : Nat} (hown : s.vm.findClass own = some m.cls) (hE : en dC dI dA sz s) (hG : ty_ok (dC, dI) vwCl Γ (TP dA Γ g) sz X H) (ha : (Γ a).1 = 30) (hl : Cond.fieldLink own index "WeekBankModel" "giftYear" "[I" ∈ AL) (hdg : decode cc pc = .ok (.getfield index, 3)) (kk : ∀ b : Nat, (Γ b).1 = 130 → W p l e R s m args below meth c H locs cells slots Q (F0 m (pc + 3) ls (.ref b :: rest))) : W p l e R s m args below meth c H locs cells slots Q (F0 m pc ls (.ref a :: rest)) := by
  refine ty_get (Tb := TX9) (C := RX9) (N := 47) (ci := 9) (F := F9 Γ g) hx hb hA in_X9 hown hE.1 hG (by rw [ha]; decide) (fun x h => by rw [TP_30 ha] at h; exact h) rfl 30 (by decide) (hA _ hl) (fun _ h => h) hdg (fun v hv => ?_)
  have hv : vR Γ 130 v := hv; obtain ⟨b, rfl, h2⟩ := hv; exact kk b h2
theorem get_X9_31 (hx : p.tables.exec = Jvm.exec) (hb : c.code = cc) (hA : ∀ w ∈ AL, w.before args s = true) {own : String} {index : Nat} (hown : s.vm.findClass own = some m.cls) (hE : en dC dI dA sz s) (hG : ty_ok (dC, dI) vwCl Γ (TP dA Γ g) sz X H) (ha : (Γ a).1 = 30) (hl : Cond.fieldLink own index "WeekBankModel" "worth" "[I" ∈ AL) (hdg : decode cc pc = .ok (.getfield index, 3)) (kk : ∀ b : Nat, (Γ b).1 = 131 → W p l e R s m args below meth c H locs cells slots Q (F0 m (pc + 3) ls (.ref b :: rest))) : W p l e R s m args below meth c H locs cells slots Q (F0 m pc ls (.ref a :: rest)) := by
  refine ty_get (Tb := TX9) (C := RX9) (N := 47) (ci := 9) (F := F9 Γ g) hx hb hA in_X9 hown hE.1 hG (by rw [ha]; decide) (fun x h => by rw [TP_30 ha] at h; exact h) rfl 31 (by decide) (hA _ hl) (fun _ h => h) hdg (fun v hv => ?_)
  have hv : vR Γ 131 v := hv; obtain ⟨b, rfl, h2⟩ := hv; exact kk b h2
theorem get_X9_32 (hx : p.tables.exec = Jvm.exec) (hb : c.code = cc) (hA : ∀ w ∈ AL, w.before args s = true) {own : String} {index : Nat} (hown : s.vm.findClass own = some m.cls) (hE : en dC dI dA sz s) (hG : ty_ok (dC, dI) vwCl Γ (TP dA Γ g) sz X H) (ha : (Γ a).1 = 30) (hl : Cond.fieldLink own index "WeekBankModel" "how" "[I" ∈ AL) (hdg : decode cc pc = .ok (.getfield index, 3)) (kk : ∀ b : Nat, (Γ b).1 = 132 → W p l e R s m args below meth c H locs cells slots Q (F0 m (pc + 3) ls (.ref b :: rest))) : W p l e R s m args below meth c H locs cells slots Q (F0 m pc ls (.ref a :: rest)) := by
  refine ty_get (Tb := TX9) (C := RX9) (N := 47) (ci := 9) (F := F9 Γ g) hx hb hA in_X9 hown hE.1 hG (by rw [ha]; decide) (fun x h => by rw [TP_30 ha] at h; exact h) rfl 32 (by decide) (hA _ hl) (fun _ h => h) hdg (fun v hv => ?_)
  have hv : vR Γ 132 v := hv; obtain ⟨b, rfl, h2⟩ := hv; exact kk b h2
theorem get_X9_33 (hx : p.tables.exec = Jvm.exec) (hb : c.code = cc) (hA : ∀ w ∈ AL, w.before args s = true) {own : String} {index : Nat} (hown : s.vm.findClass own = some m.cls) (hE : en dC dI dA sz s) (hG : ty_ok (dC, dI) vwCl Γ (TP dA Γ g) sz X H) (ha : (Γ a).1 = 30) (hl : Cond.fieldLink own index "WeekBankModel" "got" "[I" ∈ AL) (hdg : decode cc pc = .ok (.getfield index, 3)) (kk : ∀ b : Nat, (Γ b).1 = 133 → W p l e R s m args below meth c H locs cells slots Q (F0 m (pc + 3) ls (.ref b :: rest))) : W p l e R s m args below meth c H locs cells slots Q (F0 m pc ls (.ref a :: rest)) := by
  refine ty_get (Tb := TX9) (C := RX9) (N := 47) (ci := 9) (F := F9 Γ g) hx hb hA in_X9 hown hE.1 hG (by rw [ha]; decide) (fun x h => by rw [TP_30 ha] at h; exact h) rfl 33 (by decide) (hA _ hl) (fun _ h => h) hdg (fun v hv => ?_)
  have hv : vR Γ 133 v := hv; obtain ⟨b, rfl, h2⟩ := hv; exact kk b h2
theorem get_X9_34 (hx : p.tables.exec = Jvm.exec) (hb : c.code = cc) (hA : ∀ w ∈ AL, w.before args s = true) {own : String} {index : Nat} (hown : s.vm.findClass own = some m.cls) (hE : en dC dI dA sz s) (hG : ty_ok (dC, dI) vwCl Γ (TP dA Γ g) sz X H) (ha : (Γ a).1 = 30) (hl : Cond.fieldLink own index "WeekBankModel" "gotBy" "[I" ∈ AL) (hdg : decode cc pc = .ok (.getfield index, 3)) (kk : ∀ b : Nat, (Γ b).1 = 134 → W p l e R s m args below meth c H locs cells slots Q (F0 m (pc + 3) ls (.ref b :: rest))) : W p l e R s m args below meth c H locs cells slots Q (F0 m pc ls (.ref a :: rest)) := by
  refine ty_get (Tb := TX9) (C := RX9) (N := 47) (ci := 9) (F := F9 Γ g) hx hb hA in_X9 hown hE.1 hG (by rw [ha]; decide) (fun x h => by rw [TP_30 ha] at h; exact h) rfl 34 (by decide) (hA _ hl) (fun _ h => h) hdg (fun v hv => ?_)
  have hv : vR Γ 134 v := hv; obtain ⟨b, rfl, h2⟩ := hv; exact kk b h2
theorem get_X9_35 (hx : p.tables.exec = Jvm.exec) (hb : c.code = cc) (hA : ∀ w ∈ AL, w.before args s = true) {own : String} {index : Nat} (hown : s.vm.findClass own = some m.cls) (hE : en dC dI dA sz s) (hG : ty_ok (dC, dI) vwCl Γ (TP dA Γ g) sz X H) (ha : (Γ a).1 = 30) (hl : Cond.fieldLink own index "WeekBankModel" "wish" "[I" ∈ AL) (hdg : decode cc pc = .ok (.getfield index, 3)) (kk : ∀ b : Nat, (Γ b).1 = 135 → W p l e R s m args below meth c H locs cells slots Q (F0 m (pc + 3) ls (.ref b :: rest))) : W p l e R s m args below meth c H locs cells slots Q (F0 m pc ls (.ref a :: rest)) := by
  refine ty_get (Tb := TX9) (C := RX9) (N := 47) (ci := 9) (F := F9 Γ g) hx hb hA in_X9 hown hE.1 hG (by rw [ha]; decide) (fun x h => by rw [TP_30 ha] at h; exact h) rfl 35 (by decide) (hA _ hl) (fun _ h => h) hdg (fun v hv => ?_)
  have hv : vR Γ 135 v := hv; obtain ⟨b, rfl, h2⟩ := hv; exact kk b h2
theorem get_X9_36 (hx : p.tables.exec = Jvm.exec) (hb : c.code = cc) (hA : ∀ w ∈ AL, w.before args s = true) {own : String} {index : Nat} (hown : s.vm.findClass own = some m.cls) (hE : en dC dI dA sz s) (hG : ty_ok (dC, dI) vwCl Γ (TP dA Γ g) sz X H) (ha : (Γ a).1 = 30) (hl : Cond.fieldLink own index "WeekBankModel" "waits" "[I" ∈ AL) (hdg : decode cc pc = .ok (.getfield index, 3)) (kk : ∀ b : Nat, (Γ b).1 = 136 → W p l e R s m args below meth c H locs cells slots Q (F0 m (pc + 3) ls (.ref b :: rest))) : W p l e R s m args below meth c H locs cells slots Q (F0 m pc ls (.ref a :: rest)) := by
  refine ty_get (Tb := TX9) (C := RX9) (N := 47) (ci := 9) (F := F9 Γ g) hx hb hA in_X9 hown hE.1 hG (by rw [ha]; decide) (fun x h => by rw [TP_30 ha] at h; exact h) rfl 36 (by decide) (hA _ hl) (fun _ h => h) hdg (fun v hv => ?_)
  have hv : vR Γ 136 v := hv; obtain ⟨b, rfl, h2⟩ := hv; exact kk b h2
theorem get_X9_37 (hx : p.tables.exec = Jvm.exec) (hb : c.code = cc) (hA : ∀ w ∈ AL, w.before args s = true) {own : String} {index : Nat} (hown : s.vm.findClass own = some m.cls) (hE : en dC dI dA sz s) (hG : ty_ok (dC, dI) vwCl Γ (TP dA Γ g) sz X H) (ha : (Γ a).1 = 30) (hl : Cond.fieldLink own index "WeekBankModel" "waiting" "I" ∈ AL) (hdg : decode cc pc = .ok (.getfield index, 3)) (kk : ∀ x : Int32, x.toInt = g 137 0 → W p l e R s m args below meth c H locs cells slots Q (F0 m (pc + 3) ls (.int x :: rest))) : W p l e R s m args below meth c H locs cells slots Q (F0 m pc ls (.ref a :: rest)) := by
  refine ty_get (Tb := TX9) (C := RX9) (N := 47) (ci := 9) (F := F9 Γ g) hx hb hA in_X9 hown hE.1 hG (by rw [ha]; decide) (fun x h => by rw [TP_30 ha] at h; exact h) rfl 37 (by decide) (hA _ hl) (fun _ h => h) hdg (fun v hv => ?_)
  have hv : vZ (g 137 0) v := hv; obtain ⟨x, rfl, h2⟩ := hv; exact kk x h2
theorem put_X9_37 (hx : p.tables.exec = Jvm.exec) (hb : c.code = cc) (hA : ∀ w ∈ AL, w.before args s = true) {own : String} {index : Nat} (hown : s.vm.findClass own = some m.cls) (hE : en dC dI dA sz s) (hG : ty_ok (dC, dI) vwCl Γ (TP dA Γ g) sz X H) (hS0 : va_S (ty_A sz) H0 H locs) (hU : Un Γ) (ha : (Γ a).1 = 30) (hl : Cond.fieldLink own index "WeekBankModel" "waiting" "I" ∈ AL) {x : Int32} (hdg : decode cc pc = .ok (.putfield index, 3)) (kk : ∀ (H1 : Heap) (locs1 : List Loc), ty_ok (dC, dI) vwCl Γ (TP dA Γ (gs g 137 0 x.toInt)) sz X H1 → va_S (ty_A sz) H0 H1 locs1 → W p l e R s m args below meth c H1 locs1 cells slots Q (F0 m (pc + 3) ls rest)) : W p l e R s m args below meth c H locs cells slots Q (F0 m pc ls (.int x :: .ref a :: rest)) :=
  ty_putG (T' := TP dA Γ (gs g 137 0 x.toInt)) (Tb := TX9) (C := RX9) (N := 47) (ci := 9) (F := F9 Γ g) (F' := F9 Γ (gs g 137 0 x.toInt)) hx hb hA in_X9 tyX9 tyX9_ok nmX9 hown hE.1 hG hS0 (by rw [ha]; decide) (fun x h => by rw [TP_30 ha] at h; exact h) (fun x h => by rw [TP_30 ha]; exact h) rfl 37 (by decide) (hA _ hl) (fun _ h => h) rfl (ty := .int) (tyX9_ok 37 (by decide)) (rfl) (rfl) (fun j hj hne v hv => by
    unfold F9 at hv ⊢
    by_cases e : mA j = true
    · rw [if_pos e] at hv ⊢; exact hv
    · rw [if_neg e] at hv ⊢; rw [gs_c _ _ _ _ (by omega)]; exact hv) (show vZ ((gs g 137 0 x.toInt) 137 0) (.int x) from ⟨x, rfl, (gs_self _ _ _ _).symm⟩) (fun b y hb h0 h => by
    by_cases e : (Γ b).1 = 137
    · rw [TP_m (k := 37) e] at h ⊢
      exact h.mono (fun f hf => ⟨fun j hj => absurd hj (Nat.not_lt_zero _), hf.2⟩)
    · exact TP_gs (by rw [show (137 : Nat) = 100 + 37 from rfl, dpt_m]; simp [hU.one ha rfl hb, e]) h) hdg kk
theorem get_X9_38 (hx : p.tables.exec = Jvm.exec) (hb : c.code = cc) (hA : ∀ w ∈ AL, w.before args s = true) {own : String} {index : Nat} (hown : s.vm.findClass own = some m.cls) (hE : en dC dI dA sz s) (hG : ty_ok (dC, dI) vwCl Γ (TP dA Γ g) sz X H) (ha : (Γ a).1 = 30) (hl : Cond.fieldLink own index "WeekBankModel" "gets" "[I" ∈ AL) (hdg : decode cc pc = .ok (.getfield index, 3)) (kk : ∀ b : Nat, (Γ b).1 = 138 → W p l e R s m args below meth c H locs cells slots Q (F0 m (pc + 3) ls (.ref b :: rest))) : W p l e R s m args below meth c H locs cells slots Q (F0 m pc ls (.ref a :: rest)) := by
  refine ty_get (Tb := TX9) (C := RX9) (N := 47) (ci := 9) (F := F9 Γ g) hx hb hA in_X9 hown hE.1 hG (by rw [ha]; decide) (fun x h => by rw [TP_30 ha] at h; exact h) rfl 38 (by decide) (hA _ hl) (fun _ h => h) hdg (fun v hv => ?_)
  have hv : vR Γ 138 v := hv; obtain ⟨b, rfl, h2⟩ := hv; exact kk b h2
theorem get_X9_39 (hx : p.tables.exec = Jvm.exec) (hb : c.code = cc) (hA : ∀ w ∈ AL, w.before args s = true) {own : String} {index : Nat} (hown : s.vm.findClass own = some m.cls) (hE : en dC dI dA sz s) (hG : ty_ok (dC, dI) vwCl Γ (TP dA Γ g) sz X H) (ha : (Γ a).1 = 30) (hl : Cond.fieldLink own index "WeekBankModel" "bestGets" "[I" ∈ AL) (hdg : decode cc pc = .ok (.getfield index, 3)) (kk : ∀ b : Nat, (Γ b).1 = 139 → W p l e R s m args below meth c H locs cells slots Q (F0 m (pc + 3) ls (.ref b :: rest))) : W p l e R s m args below meth c H locs cells slots Q (F0 m pc ls (.ref a :: rest)) := by
  refine ty_get (Tb := TX9) (C := RX9) (N := 47) (ci := 9) (F := F9 Γ g) hx hb hA in_X9 hown hE.1 hG (by rw [ha]; decide) (fun x h => by rw [TP_30 ha] at h; exact h) rfl 39 (by decide) (hA _ hl) (fun _ h => h) hdg (fun v hv => ?_)
  have hv : vR Γ 139 v := hv; obtain ⟨b, rfl, h2⟩ := hv; exact kk b h2
theorem get_X9_40 (hx : p.tables.exec = Jvm.exec) (hb : c.code = cc) (hA : ∀ w ∈ AL, w.before args s = true) {own : String} {index : Nat} (hown : s.vm.findClass own = some m.cls) (hE : en dC dI dA sz s) (hG : ty_ok (dC, dI) vwCl Γ (TP dA Γ g) sz X H) (ha : (Γ a).1 = 30) (hl : Cond.fieldLink own index "WeekBankModel" "isGot" "[Z" ∈ AL) (hdg : decode cc pc = .ok (.getfield index, 3)) (kk : ∀ b : Nat, (Γ b).1 = 140 → W p l e R s m args below meth c H locs cells slots Q (F0 m (pc + 3) ls (.ref b :: rest))) : W p l e R s m args below meth c H locs cells slots Q (F0 m pc ls (.ref a :: rest)) := by
  refine ty_get (Tb := TX9) (C := RX9) (N := 47) (ci := 9) (F := F9 Γ g) hx hb hA in_X9 hown hE.1 hG (by rw [ha]; decide) (fun x h => by rw [TP_30 ha] at h; exact h) rfl 40 (by decide) (hA _ hl) (fun _ h => h) hdg (fun v hv => ?_)
  have hv : vR Γ 140 v := hv; obtain ⟨b, rfl, h2⟩ := hv; exact kk b h2
theorem get_X9_41 (hx : p.tables.exec = Jvm.exec) (hb : c.code = cc) (hA : ∀ w ∈ AL, w.before args s = true) {own : String} {index : Nat} (hown : s.vm.findClass own = some m.cls) (hE : en dC dI dA sz s) (hG : ty_ok (dC, dI) vwCl Γ (TP dA Γ g) sz X H) (ha : (Γ a).1 = 30) (hl : Cond.fieldLink own index "WeekBankModel" "bestMany" "I" ∈ AL) (hdg : decode cc pc = .ok (.getfield index, 3)) (kk : ∀ x : Int32, x.toInt = g 141 0 → W p l e R s m args below meth c H locs cells slots Q (F0 m (pc + 3) ls (.int x :: rest))) : W p l e R s m args below meth c H locs cells slots Q (F0 m pc ls (.ref a :: rest)) := by
  refine ty_get (Tb := TX9) (C := RX9) (N := 47) (ci := 9) (F := F9 Γ g) hx hb hA in_X9 hown hE.1 hG (by rw [ha]; decide) (fun x h => by rw [TP_30 ha] at h; exact h) rfl 41 (by decide) (hA _ hl) (fun _ h => h) hdg (fun v hv => ?_)
  have hv : vZ (g 141 0) v := hv; obtain ⟨x, rfl, h2⟩ := hv; exact kk x h2
theorem put_X9_41 (hx : p.tables.exec = Jvm.exec) (hb : c.code = cc) (hA : ∀ w ∈ AL, w.before args s = true) {own : String} {index : Nat} (hown : s.vm.findClass own = some m.cls) (hE : en dC dI dA sz s) (hG : ty_ok (dC, dI) vwCl Γ (TP dA Γ g) sz X H) (hS0 : va_S (ty_A sz) H0 H locs) (hU : Un Γ) (ha : (Γ a).1 = 30) (hl : Cond.fieldLink own index "WeekBankModel" "bestMany" "I" ∈ AL) {x : Int32} (hdg : decode cc pc = .ok (.putfield index, 3)) (kk : ∀ (H1 : Heap) (locs1 : List Loc), ty_ok (dC, dI) vwCl Γ (TP dA Γ (gs g 141 0 x.toInt)) sz X H1 → va_S (ty_A sz) H0 H1 locs1 → W p l e R s m args below meth c H1 locs1 cells slots Q (F0 m (pc + 3) ls rest)) : W p l e R s m args below meth c H locs cells slots Q (F0 m pc ls (.int x :: .ref a :: rest)) :=
  ty_putG (T' := TP dA Γ (gs g 141 0 x.toInt)) (Tb := TX9) (C := RX9) (N := 47) (ci := 9) (F := F9 Γ g) (F' := F9 Γ (gs g 141 0 x.toInt)) hx hb hA in_X9 tyX9 tyX9_ok nmX9 hown hE.1 hG hS0 (by rw [ha]; decide) (fun x h => by rw [TP_30 ha] at h; exact h) (fun x h => by rw [TP_30 ha]; exact h) rfl 41 (by decide) (hA _ hl) (fun _ h => h) rfl (ty := .int) (tyX9_ok 41 (by decide)) (rfl) (rfl) (fun j hj hne v hv => by
    unfold F9 at hv ⊢
    by_cases e : mA j = true
    · rw [if_pos e] at hv ⊢; exact hv
    · rw [if_neg e] at hv ⊢; rw [gs_c _ _ _ _ (by omega)]; exact hv) (show vZ ((gs g 141 0 x.toInt) 141 0) (.int x) from ⟨x, rfl, (gs_self _ _ _ _).symm⟩) (fun b y hb h0 h => by
    by_cases e : (Γ b).1 = 141
    · rw [TP_m (k := 41) e] at h ⊢
      exact h.mono (fun f hf => ⟨fun j hj => absurd hj (Nat.not_lt_zero _), hf.2⟩)
    · exact TP_gs (by rw [show (141 : Nat) = 100 + 41 from rfl, dpt_m]; simp [hU.one ha rfl hb, e]) h) hdg kk
theorem get_X9_42 (hx : p.tables.exec = Jvm.exec) (hb : c.code = cc) (hA : ∀ w ∈ AL, w.before args s = true) {own : String} {index : Nat} (hown : s.vm.findClass own = some m.cls) (hE : en dC dI dA sz s) (hG : ty_ok (dC, dI) vwCl Γ (TP dA Γ g) sz X H) (ha : (Γ a).1 = 30) (hl : Cond.fieldLink own index "WeekBankModel" "bestWorth" "I" ∈ AL) (hdg : decode cc pc = .ok (.getfield index, 3)) (kk : ∀ x : Int32, x.toInt = g 142 0 → W p l e R s m args below meth c H locs cells slots Q (F0 m (pc + 3) ls (.int x :: rest))) : W p l e R s m args below meth c H locs cells slots Q (F0 m pc ls (.ref a :: rest)) := by
  refine ty_get (Tb := TX9) (C := RX9) (N := 47) (ci := 9) (F := F9 Γ g) hx hb hA in_X9 hown hE.1 hG (by rw [ha]; decide) (fun x h => by rw [TP_30 ha] at h; exact h) rfl 42 (by decide) (hA _ hl) (fun _ h => h) hdg (fun v hv => ?_)
  have hv : vZ (g 142 0) v := hv; obtain ⟨x, rfl, h2⟩ := hv; exact kk x h2
theorem put_X9_42 (hx : p.tables.exec = Jvm.exec) (hb : c.code = cc) (hA : ∀ w ∈ AL, w.before args s = true) {own : String} {index : Nat} (hown : s.vm.findClass own = some m.cls) (hE : en dC dI dA sz s) (hG : ty_ok (dC, dI) vwCl Γ (TP dA Γ g) sz X H) (hS0 : va_S (ty_A sz) H0 H locs) (hU : Un Γ) (ha : (Γ a).1 = 30) (hl : Cond.fieldLink own index "WeekBankModel" "bestWorth" "I" ∈ AL) {x : Int32} (hdg : decode cc pc = .ok (.putfield index, 3)) (kk : ∀ (H1 : Heap) (locs1 : List Loc), ty_ok (dC, dI) vwCl Γ (TP dA Γ (gs g 142 0 x.toInt)) sz X H1 → va_S (ty_A sz) H0 H1 locs1 → W p l e R s m args below meth c H1 locs1 cells slots Q (F0 m (pc + 3) ls rest)) : W p l e R s m args below meth c H locs cells slots Q (F0 m pc ls (.int x :: .ref a :: rest)) :=
  ty_putG (T' := TP dA Γ (gs g 142 0 x.toInt)) (Tb := TX9) (C := RX9) (N := 47) (ci := 9) (F := F9 Γ g) (F' := F9 Γ (gs g 142 0 x.toInt)) hx hb hA in_X9 tyX9 tyX9_ok nmX9 hown hE.1 hG hS0 (by rw [ha]; decide) (fun x h => by rw [TP_30 ha] at h; exact h) (fun x h => by rw [TP_30 ha]; exact h) rfl 42 (by decide) (hA _ hl) (fun _ h => h) rfl (ty := .int) (tyX9_ok 42 (by decide)) (rfl) (rfl) (fun j hj hne v hv => by
    unfold F9 at hv ⊢
    by_cases e : mA j = true
    · rw [if_pos e] at hv ⊢; exact hv
    · rw [if_neg e] at hv ⊢; rw [gs_c _ _ _ _ (by omega)]; exact hv) (show vZ ((gs g 142 0 x.toInt) 142 0) (.int x) from ⟨x, rfl, (gs_self _ _ _ _).symm⟩) (fun b y hb h0 h => by
    by_cases e : (Γ b).1 = 142
    · rw [TP_m (k := 42) e] at h ⊢
      exact h.mono (fun f hf => ⟨fun j hj => absurd hj (Nat.not_lt_zero _), hf.2⟩)
    · exact TP_gs (by rw [show (142 : Nat) = 100 + 42 from rfl, dpt_m]; simp [hU.one ha rfl hb, e]) h) hdg kk
theorem get_X9_43 (hx : p.tables.exec = Jvm.exec) (hb : c.code = cc) (hA : ∀ w ∈ AL, w.before args s = true) {own : String} {index : Nat} (hown : s.vm.findClass own = some m.cls) (hE : en dC dI dA sz s) (hG : ty_ok (dC, dI) vwCl Γ (TP dA Γ g) sz X H) (ha : (Γ a).1 = 30) (hl : Cond.fieldLink own index "WeekBankModel" "longest" "I" ∈ AL) (hdg : decode cc pc = .ok (.getfield index, 3)) (kk : ∀ x : Int32, x.toInt = g 143 0 → W p l e R s m args below meth c H locs cells slots Q (F0 m (pc + 3) ls (.int x :: rest))) : W p l e R s m args below meth c H locs cells slots Q (F0 m pc ls (.ref a :: rest)) := by
  refine ty_get (Tb := TX9) (C := RX9) (N := 47) (ci := 9) (F := F9 Γ g) hx hb hA in_X9 hown hE.1 hG (by rw [ha]; decide) (fun x h => by rw [TP_30 ha] at h; exact h) rfl 43 (by decide) (hA _ hl) (fun _ h => h) hdg (fun v hv => ?_)
  have hv : vZ (g 143 0) v := hv; obtain ⟨x, rfl, h2⟩ := hv; exact kk x h2
theorem put_X9_43 (hx : p.tables.exec = Jvm.exec) (hb : c.code = cc) (hA : ∀ w ∈ AL, w.before args s = true) {own : String} {index : Nat} (hown : s.vm.findClass own = some m.cls) (hE : en dC dI dA sz s) (hG : ty_ok (dC, dI) vwCl Γ (TP dA Γ g) sz X H) (hS0 : va_S (ty_A sz) H0 H locs) (hU : Un Γ) (ha : (Γ a).1 = 30) (hl : Cond.fieldLink own index "WeekBankModel" "longest" "I" ∈ AL) {x : Int32} (hdg : decode cc pc = .ok (.putfield index, 3)) (kk : ∀ (H1 : Heap) (locs1 : List Loc), ty_ok (dC, dI) vwCl Γ (TP dA Γ (gs g 143 0 x.toInt)) sz X H1 → va_S (ty_A sz) H0 H1 locs1 → W p l e R s m args below meth c H1 locs1 cells slots Q (F0 m (pc + 3) ls rest)) : W p l e R s m args below meth c H locs cells slots Q (F0 m pc ls (.int x :: .ref a :: rest)) :=
  ty_putG (T' := TP dA Γ (gs g 143 0 x.toInt)) (Tb := TX9) (C := RX9) (N := 47) (ci := 9) (F := F9 Γ g) (F' := F9 Γ (gs g 143 0 x.toInt)) hx hb hA in_X9 tyX9 tyX9_ok nmX9 hown hE.1 hG hS0 (by rw [ha]; decide) (fun x h => by rw [TP_30 ha] at h; exact h) (fun x h => by rw [TP_30 ha]; exact h) rfl 43 (by decide) (hA _ hl) (fun _ h => h) rfl (ty := .int) (tyX9_ok 43 (by decide)) (rfl) (rfl) (fun j hj hne v hv => by
    unfold F9 at hv ⊢
    by_cases e : mA j = true
    · rw [if_pos e] at hv ⊢; exact hv
    · rw [if_neg e] at hv ⊢; rw [gs_c _ _ _ _ (by omega)]; exact hv) (show vZ ((gs g 143 0 x.toInt) 143 0) (.int x) from ⟨x, rfl, (gs_self _ _ _ _).symm⟩) (fun b y hb h0 h => by
    by_cases e : (Γ b).1 = 143
    · rw [TP_m (k := 43) e] at h ⊢
      exact h.mono (fun f hf => ⟨fun j hj => absurd hj (Nat.not_lt_zero _), hf.2⟩)
    · exact TP_gs (by rw [show (143 : Nat) = 100 + 43 from rfl, dpt_m]; simp [hU.one ha rfl hb, e]) h) hdg kk
theorem get_X9_44 (hx : p.tables.exec = Jvm.exec) (hb : c.code = cc) (hA : ∀ w ∈ AL, w.before args s = true) {own : String} {index : Nat} (hown : s.vm.findClass own = some m.cls) (hE : en dC dI dA sz s) (hG : ty_ok (dC, dI) vwCl Γ (TP dA Γ g) sz X H) (ha : (Γ a).1 = 30) (hl : Cond.fieldLink own index "WeekBankModel" "wasAsked" "[Z" ∈ AL) (hdg : decode cc pc = .ok (.getfield index, 3)) (kk : ∀ b : Nat, (Γ b).1 = 144 → W p l e R s m args below meth c H locs cells slots Q (F0 m (pc + 3) ls (.ref b :: rest))) : W p l e R s m args below meth c H locs cells slots Q (F0 m pc ls (.ref a :: rest)) := by
  refine ty_get (Tb := TX9) (C := RX9) (N := 47) (ci := 9) (F := F9 Γ g) hx hb hA in_X9 hown hE.1 hG (by rw [ha]; decide) (fun x h => by rw [TP_30 ha] at h; exact h) rfl 44 (by decide) (hA _ hl) (fun _ h => h) hdg (fun v hv => ?_)
  have hv : vR Γ 144 v := hv; obtain ⟨b, rfl, h2⟩ := hv; exact kk b h2
theorem get_X9_45 (hx : p.tables.exec = Jvm.exec) (hb : c.code = cc) (hA : ∀ w ∈ AL, w.before args s = true) {own : String} {index : Nat} (hown : s.vm.findClass own = some m.cls) (hE : en dC dI dA sz s) (hG : ty_ok (dC, dI) vwCl Γ (TP dA Γ g) sz X H) (ha : (Γ a).1 = 30) (hl : Cond.fieldLink own index "WeekBankModel" "luckThen" "[I" ∈ AL) (hdg : decode cc pc = .ok (.getfield index, 3)) (kk : ∀ b : Nat, (Γ b).1 = 145 → W p l e R s m args below meth c H locs cells slots Q (F0 m (pc + 3) ls (.ref b :: rest))) : W p l e R s m args below meth c H locs cells slots Q (F0 m pc ls (.ref a :: rest)) := by
  refine ty_get (Tb := TX9) (C := RX9) (N := 47) (ci := 9) (F := F9 Γ g) hx hb hA in_X9 hown hE.1 hG (by rw [ha]; decide) (fun x h => by rw [TP_30 ha] at h; exact h) rfl 45 (by decide) (hA _ hl) (fun _ h => h) hdg (fun v hv => ?_)
  have hv : vR Γ 145 v := hv; obtain ⟨b, rfl, h2⟩ := hv; exact kk b h2
theorem get_X9_46 (hx : p.tables.exec = Jvm.exec) (hb : c.code = cc) (hA : ∀ w ∈ AL, w.before args s = true) {own : String} {index : Nat} (hown : s.vm.findClass own = some m.cls) (hE : en dC dI dA sz s) (hG : ty_ok (dC, dI) vwCl Γ (TP dA Γ g) sz X H) (ha : (Γ a).1 = 30) (hl : Cond.fieldLink own index "WeekBankModel" "stays" "[Z" ∈ AL) (hdg : decode cc pc = .ok (.getfield index, 3)) (kk : ∀ b : Nat, (Γ b).1 = 146 → W p l e R s m args below meth c H locs cells slots Q (F0 m (pc + 3) ls (.ref b :: rest))) : W p l e R s m args below meth c H locs cells slots Q (F0 m pc ls (.ref a :: rest)) := by
  refine ty_get (Tb := TX9) (C := RX9) (N := 47) (ci := 9) (F := F9 Γ g) hx hb hA in_X9 hown hE.1 hG (by rw [ha]; decide) (fun x h => by rw [TP_30 ha] at h; exact h) rfl 46 (by decide) (hA _ hl) (fun _ h => h) hdg (fun v hv => ?_)
  have hv : vR Γ 146 v := hv; obtain ⟨b, rfl, h2⟩ := hv; exact kk b h2
end ROWS
