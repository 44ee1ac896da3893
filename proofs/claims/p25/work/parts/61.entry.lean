theorem kn {s : State} {args : Array Value} (hts : ∀ w ∈ lw_tbl, w.before args s = true) : ∃ (dC : Nat → ClassId) (dI : Nat → Nat → Nat), ∀ (k : Nat) (q : vw_C), vwCl[k]? = some q → u_Kn s q.1 q.2.1 q.2.2 (dC k) (dI k) := by
  obtain ⟨c0, i0, k0⟩ := u_known (C := RX0) (T := TX0) (N := 6) hts (fun w h => al_in (in_X0 w h)) (hts _ (al_in wd_1_130))
  obtain ⟨c1, i1, k1⟩ := u_known (C := RX1) (T := TX1) (N := 6) hts (fun w h => al_in (in_X1 w h)) (hts _ (al_in wd_1_204))
  obtain ⟨c2, i2, k2⟩ := u_known (C := RX2) (T := TX2) (N := 10) hts (fun w h => al_in (in_X2 w h)) (hts _ (al_in wd_3_13))
  obtain ⟨c3, i3, k3⟩ := u_known (C := RX3) (T := TX3) (N := 8) hts (fun w h => al_in (in_X3 w h)) (hts _ (al_in wd_2_1))
  obtain ⟨c4, i4, k4⟩ := u_known (C := RX4) (T := TX4) (N := 8) hts (fun w h => al_in (in_X4 w h)) (hts _ (al_in wd_1_37))
  obtain ⟨c5, i5, k5⟩ := u_known (C := RX5) (T := TX5) (N := 7) hts (fun w h => al_in (in_X5 w h)) (hts _ (al_in wd_1_101))
  obtain ⟨c6, i6, k6⟩ := u_known (C := RX6) (T := TX6) (N := 5) hts (fun w h => al_in (in_X6 w h)) (hts _ (al_in wd_1_72))
  obtain ⟨c7, i7, k7⟩ := u_known (C := RX7) (T := TX7) (N := 4) hts (fun w h => al_in (in_X7 w h)) (hts _ (al_in wd_3_81))
  obtain ⟨c8, i8, k8⟩ := u_known (C := RX8) (T := TX8) (N := 13) hts (fun w h => al_in (in_X8 w h)) (hts _ (al_in wd_1_23))
  obtain ⟨c9, i9, k9⟩ := u_known (C := RX9) (T := TX9) (N := 47) hts (fun w h => al_in (in_X9 w h)) (hts _ (al_in wd_4_125))
  refine ⟨fun k => if k = 0 then c0 else if k = 1 then c1 else if k = 2 then c2 else if k = 3 then c3 else if k = 4 then c4 else if k = 5 then c5 else if k = 6 then c6 else if k = 7 then c7 else if k = 8 then c8 else c9, fun k => if k = 0 then i0 else if k = 1 then i1 else if k = 2 then i2 else if k = 3 then i3 else if k = 4 then i4 else if k = 5 then i5 else if k = 6 then i6 else if k = 7 then i7 else if k = 8 then i8 else i9, fun k q hq => ?_⟩
  match k, hq with
  | 0, hq => cases hq; exact k0
  | 1, hq => cases hq; exact k1
  | 2, hq => cases hq; exact k2
  | 3, hq => cases hq; exact k3
  | 4, hq => cases hq; exact k4
  | 5, hq => cases hq; exact k5
  | 6, hq => cases hq; exact k6
  | 7, hq => cases hq; exact k7
  | 8, hq => cases hq; exact k8
  | 9, hq => cases hq; exact k9
  | k + 10, hq => simp at hq
theorem knA {s : State} {args : Array Value} {t : FieldType} (h : (Cond.arrayClass t).before args s = true) : ∃ cA, ArrOfT s cA t ∧ s.vm.findClass ("[" ++ t.toString) = some cA := by
  obtain ⟨c, k, comp, h1, h2, h3⟩ := Cond.arrayClass_spec (args := args) (first := s) (o := none) (s := s) (idx := []) h
  exact ⟨c, fun n z => ⟨fun k h => (by cases h), k, h2, comp, h3⟩, h1⟩
theorem knO {s : State} {args : Array Value} {C : String} (h : (Cond.arrayOver (.object C)).before args s = true) : ∃ cA, ArrOfT s cA (.object C) ∧ va_RA s cA (.object C) := by
  obtain ⟨comp, c, k, h1, h2, h3, h4, h5⟩ := Cond.arrayOver_spec (args := args) (first := s) (o := none) (s := s) (idx := []) h
  exact ⟨c, fun n z => ⟨fun k h => (by cases h), k, h3, comp, h4⟩, k, comp, h3, h4, h1, h5⟩
theorem kns {s : State} {args : Array Value} (hts : ∀ w ∈ lw_tbl, w.before args s = true) : ∃ dA : Nat → ClassId, ∀ (k : Nat) (q : ClassId × FieldType), (ty_ts dA)[k]? = some q → ArrOfT s q.1 q.2 ∧ va_RA s q.1 q.2 := by
  obtain ⟨c0, a0, b0⟩ := knA (hts _ (al_in wd_1_70))
  obtain ⟨c1, a1, b1⟩ := knA (hts _ (al_in wd_1_156))
  obtain ⟨c2, a2, b2⟩ := knA (hts _ (al_in wd_2_221))
  obtain ⟨c3, a3, b3⟩ := knA (hts _ (al_in wd_5_239))
  obtain ⟨c4, a4, b4⟩ := knO (hts _ wt_1_31)
  obtain ⟨c5, a5, b5⟩ := knO (hts _ wt_1_33)
  obtain ⟨c6, a6, b6⟩ := knO (hts _ wt_1_35)
  refine ⟨fun k => if k = 0 then c0 else if k = 1 then c1 else if k = 2 then c2 else if k = 3 then c3 else if k = 4 then c4 else if k = 5 then c5 else c6, fun k q hq => ?_⟩
  match k, hq with
  | 0, hq => cases hq; exact ⟨a0, b0⟩
  | 1, hq => cases hq; exact ⟨a1, b1⟩
  | 2, hq => cases hq; exact ⟨a2, b2⟩
  | 3, hq => cases hq; exact ⟨a3, b3⟩
  | 4, hq => cases hq; exact ⟨a4, b4⟩
  | 5, hq => cases hq; exact ⟨a5, b5⟩
  | 6, hq => cases hq; exact ⟨a6, b6⟩
  | k + 7, hq => simp at hq
theorem strR {s : State} {args : Array Value} {own tx : String} {k : Nat} (h1 : (Cond.stringRef own k tx).before args s = true) (h2 : (Cond.exactly (.string own k) "java/lang/String").before args s = true) : ∃ sa, vk_R own k tx sa s := by
  obtain ⟨a, -, -, -, q1, -⟩ := Cond.exactly_spec (args := args) (first := s) (o := none) (s := s) (idx := []) h2
  exact ⟨a, vk_R.of h1 q1⟩
set_option maxRecDepth 100000 in
theorem ex_start {s : State} {args : Array Value} (hts : ∀ w ∈ lw_tbl, w.before args s = true) (hgv : (Jvm.Cond.and given_1 narrow_1).before args s = true) : ex s.heap.size s := by
  have hf := flat_of_before _ hgv
  have hn : ∀ a : Nat, a < s.heap.size → ¬ ty_A s.heap.size a := fun a h => Nat.not_le.mpr h
  refine ⟨⟨vx_Zqof (hts _ wt_4_85) (hts _ (al_in wd_1_18)) (hf _ (by decide +kernel)) hn, vx_Zqof (hts _ wt_4_87) (hts _ (al_in wd_1_18)) (hf _ (by decide +kernel)) hn⟩, ⟨va_Nw.of rfl (hts _ wt_4_62), va_Nw.of rfl (hts _ wt_4_64), va_Nw.of rfl (hts _ wt_4_66), va_Nw.of rfl (hts _ wt_4_60)⟩, strR (hts _ wt_4_97) (hf _ (by decide +kernel)), strR (hts _ wt_4_123) (hf _ (by decide +kernel))⟩
theorem es_cg {d d' : Nat → Nat → Nat} {sz : Nat} {U : State} (h1 : ∀ k, d' 100 k = d 100 k) (h2 : ∀ k, d' 101 k = d 101 k) (h3 : ∀ k, d' 102 k = d 102 k) (h : es d sz U) : es d' sz U := by
  unfold es at h ⊢
  simp only [h1, h2, h3]
  exact h
theorem so_of {s : State} {args : Array Value} {own tx : String} {k : Nat} {bs : List Int32} {sz : Nat} (hsz : sz = s.heap.size) (h1 : (Cond.stringRef own k tx).before args s = true) (hN : bs.length < 2 ^ 31) (hex : (Cond.exactly (.string own k) "java/lang/String").before args s = true) (hco : (Cond.eq (.field (.string own k) "java/lang/String" "coder" "B") (.int 0)).before args s = true) (har : (Cond.arrayOf (.field (.string own k) "java/lang/String" "value" "[B") .byte).before args s = true) (hle : (Cond.eq (.length (.field (.string own k) "java/lang/String" "value" "[B")) (.int (Int32.ofNat bs.length))).before args s = true)
    (hel : ∀ j : Nat, j < bs.length → (Cond.eq (.elem (.field (.string own k) "java/lang/String" "value" "[B") (.int (Int32.ofNat j))) (.int (bs.getD j 0))).before args s = true) : ∃ q : Nat × Nat, vk_R own k tx q.1 s ∧ so q.1 q.2 bs sz s := by
  subst hsz
  have hA : ∀ a : Nat, a < s.heap.size → ¬ ty_A s.heap.size a := fun a h => Nat.not_le.mpr h
  obtain ⟨a, c, cA, kA, q1, q2, q3, q4, q5, q6, -⟩ := Cond.exactly_spec (args := args) (first := s) (o := none) (s := s) (idx := []) (t := .string own k) (cls := "java/lang/String") hex
  obtain ⟨t, ht, hT⟩ := va_Tof (f := fun j => .int (bs.getD j 0)) (A := ty_A s.heap.size) hN har (va_eqt hle) (fun j hj => va_eqt (hel j hj)) hA
  exact ⟨(a, t), vk_R.of h1 q1, ⟨cA, q3, q5, by rw [q6]; exact q2, hA a (Array.getElem?_eq_some_iff.mp q3).1⟩, vk_OFof q1 (va_eqt hco) hA, vk_OFof q1 ht hA, hT⟩
theorem IJ_zero {u : gh} (h1 : ∀ j, u 132 j = 0) (h2 : u 126 0 = 0) : IJ u := by
  refine ⟨fun j hj => ?_, ?_⟩
  · rw [h1 j] at hj; omega
  · rw [h2]; exact Nat.zero_le _
theorem str_word {s : State} {args : Array Value} (hts : ∀ w ∈ lw_tbl, w.before args s = true) : ∀ k, k < 12 → (Cond.stringRef (sO k) (sI k) (sT k)).before args s = true := fun k hk => match k, hk with
  | 0, _ => hts _ wt_2_126
  | 1, _ => hts _ wt_2_179
  | 2, _ => hts _ wt_2_180
  | 3, _ => hts _ wt_2_181
  | 4, _ => hts _ wt_2_215
  | 5, _ => hts _ wt_2_216
  | 6, _ => hts _ wt_5_89
  | 7, _ => hts _ wt_5_96
  | 8, _ => hts _ wt_5_97
  | 9, _ => hts _ wt_5_98
  | 10, _ => hts _ wt_5_103
  | 11, _ => hts _ wt_5_104
  | k + 12, h => absurd h (by omega)
set_option maxRecDepth 100000 in
theorem gv_1 : ∀ k, k < 12 → Cond.exactly (.string (sO k) (sI k)) "java/lang/String" ∈ flatC (Jvm.Cond.and given_1 narrow_1) := by decide +kernel
set_option maxRecDepth 100000 in
theorem gv_2 : ∀ k, k < 12 → Cond.eq (.field (.string (sO k) (sI k)) "java/lang/String" "coder" "B") (.int 0) ∈ flatC (Jvm.Cond.and given_1 narrow_1) := by decide +kernel
set_option maxRecDepth 100000 in
theorem gv_3 : ∀ k, k < 12 → Cond.arrayOf (.field (.string (sO k) (sI k)) "java/lang/String" "value" "[B") .byte ∈ flatC (Jvm.Cond.and given_1 narrow_1) := by decide +kernel
set_option maxRecDepth 100000 in
theorem gv_4 : ∀ k, k < 12 → Cond.eq (.length (.field (.string (sO k) (sI k)) "java/lang/String" "value" "[B")) (.int (Int32.ofNat (sB k).length)) ∈ flatC (Jvm.Cond.and given_1 narrow_1) := by decide +kernel
set_option maxRecDepth 100000 in
theorem gv_5 : ∀ k, k < 12 → ∀ j, j < (sB k).length → Cond.eq (.elem (.field (.string (sO k) (sI k)) "java/lang/String" "value" "[B") (.int (Int32.ofNat j))) (.int ((sB k).getD j 0)) ∈ flatC (Jvm.Cond.and given_1 narrow_1) := by decide +kernel
set_option maxRecDepth 100000 in
theorem gv_6 : ∀ j, j < 9 → Cond.eq (.elem (.static "WeekBank$RingSearch" "DIGIT_WORTH" "[I") (.int (Int32.ofNat j))) (.int (dW j)) ∈ flatC (Jvm.Cond.and given_1 narrow_1) := by decide +kernel
set_option maxRecDepth 100000 in
theorem es_start {s : State} {args : Array Value} (hts : ∀ w ∈ lw_tbl, w.before args s = true) (hgv : (Jvm.Cond.and given_1 narrow_1).before args s = true) : ∃ d : Nat → Nat → Nat, es d s.heap.size s := by
  have hf := flat_of_before _ hgv
  have hA : ∀ a : Nat, a < s.heap.size → ¬ ty_A s.heap.size a := fun a h => Nat.not_le.mpr h
  have h0 : ∀ k : Nat, ∃ q : Nat × Nat, k < 12 → vk_R (sO k) (sI k) (sT k) q.1 s ∧ so q.1 q.2 (sB k) s.heap.size s := fun k => by
    by_cases hk : k < 12
    · obtain ⟨q, h⟩ := so_of (sz := s.heap.size) rfl (str_word hts k hk) (by have := sB_le k hk; omega) (hf _ (gv_1 k hk)) (hf _ (gv_2 k hk)) (hf _ (gv_3 k hk)) (hf _ (gv_4 k hk)) (fun j hj => hf _ (gv_5 k hk j hj))
      exact ⟨q, fun _ => h⟩
    · exact ⟨(0, 0), fun h => absurd h hk⟩
  obtain ⟨ad, had⟩ := Classical.axiomOfChoice h0
  obtain ⟨t, ht, hT⟩ := va_Tof (tm := .static "WeekBank$RingSearch" "DIGIT_WORTH" "[I") (ty := .int) (N := 9) (f := fun j => .int (dW j)) (A := ty_A s.heap.size) (by decide) (hf _ (by decide +kernel)) (va_eqt (hf _ (by decide +kernel))) (fun j hj => va_eqt (hf _ (gv_6 j hj))) hA
  obtain ⟨v, hv, hvr⟩ := Cond.isRef_spec (args := args) (first := s) (o := none) (s := s) (idx := []) (t := .static "jdk/internal/util/Preconditions" "SIOOBE_FORMATTER" "Ljava/util/function/BiFunction;") (hf _ (by decide +kernel))
  obtain ⟨o, rfl⟩ : ∃ o : Option Nat, v = va_rf o := by
    cases v with
    | null => exact ⟨none, rfl⟩
    | ref a => exact ⟨some a, rfl⟩
    | _ => cases hvr
  refine ⟨fun k i => if k = 100 then (ad i).1 else if k = 102 then (ad i).2 else t, fun k hk => had k hk, va_Zof (hts _ wt_2_140) (hts _ (al_in wd_1_10)) (va_eqi (hf _ (by decide +kernel))) hA, ⟨o, va_Zof (hts _ wt_2_156) (hts _ (al_in wd_1_12)) hv hA⟩, va_Zof (hts _ wt_3_153) (hts _ (al_in wd_1_5)) ht hA, hT⟩
theorem en_start {s : State} {args : Array Value} (hts : ∀ w ∈ lw_tbl, w.before args s = true) (hgv : (Jvm.Cond.and given_1 narrow_1).before args s = true) : ∃ (dC : Nat → ClassId) (dI : Nat → Nat → Nat) (dA : Nat → ClassId), en dC dI dA s.heap.size s := by
  obtain ⟨dC, dI, h1⟩ := kn hts
  obtain ⟨dA, h2⟩ := kns hts
  obtain ⟨d, h3⟩ := es_start hts hgv
  have e9 : ∀ k i, ¬ k < 10 → (fun k i => if k < 10 then dI k i else d k i : Nat → Nat → Nat) k i = d k i := fun k i h => if_neg h
  refine ⟨dC, fun k i => if k < 10 then dI k i else d k i, dA, ⟨fun k q hq => ?_, h2⟩, ⟨va_Nw.of rfl (hts _ wt_1_38), va_Nw.of rfl (hts _ wt_1_102), va_Nw.of rfl (hts _ wt_1_131), va_Nw.of rfl (hts _ wt_2_72), va_Nw.of rfl (hts _ wt_2_205), va_Nw.of rfl (hts _ wt_2_210), es_cg (fun k => e9 100 k (by decide)) (fun k => e9 101 k (by decide)) (fun k => e9 102 k (by decide)) h3⟩, va_AO.of (hts _ wt_1_31), va_AO.of (hts _ wt_1_33), va_AO.of (hts _ wt_1_35), ex_start hts hgv⟩
  have hk : k < 10 := by
    refine Nat.not_le.mp (fun h => ?_)
    rw [List.getElem?_eq_none (by exact h)] at hq
    cases hq
  show u_Kn s q.1 q.2.1 q.2.2 (dC k) (fun i => if k < 10 then dI k i else d k i)
  simp only [hk, if_true]
  exact h1 k q hq
theorem lw_len {L : Nat} {z : Int32} (h : z = Int32.ofNat L) (hL : L ≤ 3072) : z.toInt = (L : Int) := by
  rw [h]; exact Int32.toInt_ofNat_of_lt (by omega)
theorem lw_same {xs : Nat → Int32} {i j y : Int32} (h : y = xs i.toNatClampNeg) (e : j.toInt = i.toInt) : xs j.toNatClampNeg = y := by
  rw [h, ty_eq32.mpr e]
/-- the numbers of two fresh objects -/
def lw_g : gh := fun c j => if c = 14 ∨ c = 121 ∨ c = 46 ∨ c = 56 then -1 else if c = 43 then (if j < 318 then -1 else 0) else if c = 12 ∧ j = 0 then 1 else 0
theorem lw_g0 {c : Nat} (j : Nat) (h : c ∉ [14, 121, 46, 56, 43, 12]) : lw_g c j = 0 := by
  simp only [List.mem_cons, List.not_mem_nil, or_false, not_or] at h
  unfold lw_g
  rw [if_neg (by omega), if_neg (by omega), if_neg (by omega)]
/-! THE CLAIM OUT OF ONE WALK OF THE LAW'S BODY. Your part is whole_start (and what it stands on); all else here is the same for every law, but numbers. -/
def R_law : String := "WeekBankLaw"
def lw_P (b : Addr) (xs : List Int32) (args : Array Value) (s : State) : Prop := args = #[.ref b] ∧ s.IntsAt b xs ∧ xs.length ≤ 3072 ∧ (Jvm.Cond.and given_1 narrow_1).before args s = true
def lw_Q (_ : Array Value) (s : State) (o : Outcome) (t : State) : Prop := o = .returned (some (.int 1)) ∧ Framed s o t [] 601024 7293034
def lw_Z (below : List Frame) (a : Array Value) (s : State) : State → Prop := fun t => ∃ o, t.status = .running ∧ Ended t below o ∧ lw_Q a s o t
/-- the law's own end, with 1 on the stack, nothing written that was there before, its room as the claim has it -/
theorem lw_ret {p : Program} {l : Launch} {e : Env} {s : State} {m : MethodId} {below : List Frame} {meth : Method} {c : Code} {b : Nat} (hx : p.tables.exec = Jvm.exec) (hb : c.code = code) (hr : meth.sig.returnType = ret) (hlocks : meth.locks = false) {pc : Nat} {H : Heap} {ls : Array Slot} (hdg : decode code pc = .ok (.ireturn, 1)) : W p l e room_1 s m #[Value.ref b] below meth c H [] 601024 7293034 (lw_Z below #[Value.ref b] s) (F0 m pc ls [.int 1]) := by
  intro T hT X
  obtain ⟨fs, hret, hrun, hended, hW, hframe⟩ := X.leave (v := some (.int 1)) (hlocks := hlocks) (fun h => by rw [hr] at h; cases h)
  have hmeth' : T.vm.method? m = some meth := X.method'
  refine ⟨T.setFrames fs, ?_, .returned (some (.int 1)), hrun, hended, rfl, ⟨_, rfl⟩, hW, hframe⟩
  jvm_step X.here [X.here.top, hx, hb, hdg, hmeth', hr, ret, narrow_b1]
  (try refine ⟨rfl, ?_⟩); (try refine ⟨rfl, ?_⟩)
  first | (intro acts; rw [hret _ acts rfl rfl rfl]) | rw [hret _ _ rfl rfl rfl]
  exact Steps.refl _
/-- what holds at the law's entry: the machine, the code, the tables' words (any of lw_tbl by 'hts w (by decide +kernel)'), the script of L ints xs at the cell b, what the Statement gives of the start (any of its parts by flat_of_before) -/
def lw_At (p : Program) (s : State) (m : MethodId) (meth : Method) (c : Code) (b L : Nat) (xs : Nat → Int32) : Prop :=
  p.tables.exec = Jvm.exec ∧ c.code = code ∧ meth.sig.returnType = ret ∧ c.maxLocals = 7 ∧ s.vm.findClass R_law = some m.cls ∧ (∀ w ∈ lw_tbl, w.before #[Value.ref b] s = true) ∧ va_X b L xs s s.heap ∧ b < s.heap.size ∧ meth.locks = false ∧ (Jvm.Cond.and given_1 narrow_1).before #[Value.ref b] s = true
