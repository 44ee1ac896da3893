section ROWS3
variable {p : Program} {l : Launch} {e : Env} {R : Room} {s : State} {m : MethodId} {args : Array Value} {below : List Frame} {meth : Method} {c : Code} {H : Heap} {locs : List Loc} {cells slots : Nat} {Q : State → Prop}
variable {cc : ByteArray} {pc : Nat} {ls : Array Slot} {rest : List Value} {dC : Nat → ClassId} {dI : Nat → Nat → Nat} {dA : Nat → ClassId} {a : Nat} {H0 : Heap} {sz : Nat} {X : va_W} {Γ : ty_G} {g : gh}
theorem va_S.grow {A : Nat → Prop} {H0 H H1 : Heap} {locs : List Loc} (h : va_S A H0 H locs) (hz : H.size ≤ H1.size) (o1 : ∀ q, q < H.size → H1[q]? = H[q]?) : va_S A H0 H1 locs := ⟨Nat.le_trans h.1 hz, fun q h1 h2 => (o1 q (Nat.lt_of_lt_of_le h1 h.1)).trans (h.2.1 q h1 h2), h.2.2⟩
theorem tp_adopt {q : Nat} {t : ty_N} {x : va_E} (h : ty_ok (dC, dI) vwCl Γ (TP dA Γ g) sz ((q, x) :: X) H) (hT : TP dA (va_up Γ q t) g t x) : ty_ok (dC, dI) vwCl (va_up Γ q t) (TP dA (va_up Γ q t) g) sz X H :=
  ty_adopt h (fun _ _ _ _ h9 => TP_ext (ext.up (h.2.2.2 _ List.mem_cons_self).2.1) h9) hT
theorem new_I (hx : p.tables.exec = Jvm.exec) (hb : c.code = cc) (hA : ∀ w ∈ AL, w.before args s = true) (hE : en dC dI dA sz s) (hG : ty_ok (dC, dI) vwCl Γ (TP dA Γ g) sz X H) (hS0 : va_S (ty_A sz) H0 H locs) (hw : Cond.arrayClass .int ∈ AL) {n : Int32} {N : Nat} (hn : n.toInt = N) (hby : N * componentBytes .int ≤ 536870912) (hcells : cells + 1 ≤ R.cells) (hslots : slots + N ≤ R.slots) (t : ty_N) (hT : ∀ Γ' : ty_G, TP dA Γ' g t (.inl (dA 0, N, .inl (fun _ => 0)))) (hdg : decode cc pc = .ok (.newarray .int, 2))
    (kk : ∀ (q : Nat) (H1 : Heap), (Γ q).1 = 0 → sz ≤ q → q = H.size → ty_ok (dC, dI) vwCl (va_up Γ q t) (TP dA (va_up Γ q t) g) sz X H1 → va_S (ty_A sz) H0 H1 locs → W p l e R s m args below meth c H1 locs (cells + 1) (slots + N) Q (F0 m (pc + 2) ls (.ref q :: rest))) : W p l e R s m args below meth c H locs cells slots Q (F0 m pc ls (.int n :: rest)) := by
  refine va_newaK (atype := .int) (N := N) hx hb (hA _ hw) rfl hdg rfl (fun h => by have := ty_lt32.mp h; rw [hn, Int32.toInt_zero] at this; omega) (by show n.toInt.toNat = N; omega) hby hcells hslots rfl fun H1 cA e1 z1 o1 hAr hNm => ?_
  have h1 := (hE.1.2 0 (dA 0, .int) rfl).2
  obtain rfl : cA = dA 0 := Option.some.inj (hNm.symm.trans h1)
  have hq := ty_new0 hG
  exact kk H.size H1 hq hG.1 rfl (tp_adopt (ty_push (x := .inl (dA 0, N, .inl (fun _ => 0))) hG rfl (by omega) o1 e1) (hT _)) (hS0.grow (by omega) o1)
theorem new_Z (hx : p.tables.exec = Jvm.exec) (hb : c.code = cc) (hA : ∀ w ∈ AL, w.before args s = true) (hE : en dC dI dA sz s) (hG : ty_ok (dC, dI) vwCl Γ (TP dA Γ g) sz X H) (hS0 : va_S (ty_A sz) H0 H locs) (hw : Cond.arrayClass .boolean ∈ AL) {n : Int32} {N : Nat} (hn : n.toInt = N) (hby : N * componentBytes .boolean ≤ 536870912) (hcells : cells + 1 ≤ R.cells) (hslots : slots + N ≤ R.slots) (t : ty_N) (hT : ∀ Γ' : ty_G, TP dA Γ' g t (.inl (dA 1, N, .inl (fun _ => 0)))) (hdg : decode cc pc = .ok (.newarray .boolean, 2))
    (kk : ∀ (q : Nat) (H1 : Heap), (Γ q).1 = 0 → sz ≤ q → q = H.size → ty_ok (dC, dI) vwCl (va_up Γ q t) (TP dA (va_up Γ q t) g) sz X H1 → va_S (ty_A sz) H0 H1 locs → W p l e R s m args below meth c H1 locs (cells + 1) (slots + N) Q (F0 m (pc + 2) ls (.ref q :: rest))) : W p l e R s m args below meth c H locs cells slots Q (F0 m pc ls (.int n :: rest)) := by
  refine va_newaK (atype := .boolean) (N := N) hx hb (hA _ hw) rfl hdg rfl (fun h => by have := ty_lt32.mp h; rw [hn, Int32.toInt_zero] at this; omega) (by show n.toInt.toNat = N; omega) hby hcells hslots rfl fun H1 cA e1 z1 o1 hAr hNm => ?_
  have h1 := (hE.1.2 1 (dA 1, .boolean) rfl).2
  obtain rfl : cA = dA 1 := Option.some.inj (hNm.symm.trans h1)
  have hq := ty_new0 hG
  exact kk H.size H1 hq hG.1 rfl (tp_adopt (ty_push (x := .inl (dA 1, N, .inl (fun _ => 0))) hG rfl (by omega) o1 e1) (hT _)) (hS0.grow (by omega) o1)
theorem new_B (hx : p.tables.exec = Jvm.exec) (hb : c.code = cc) (hA : ∀ w ∈ AL, w.before args s = true) (hE : en dC dI dA sz s) (hG : ty_ok (dC, dI) vwCl Γ (TP dA Γ g) sz X H) (hS0 : va_S (ty_A sz) H0 H locs) (hw : Cond.arrayClass .byte ∈ AL) {n : Int32} {N : Nat} (hn : n.toInt = N) (hby : N * componentBytes .byte ≤ 536870912) (hcells : cells + 1 ≤ R.cells) (hslots : slots + N ≤ R.slots) (t : ty_N) (hT : ∀ Γ' : ty_G, TP dA Γ' g t (.inl (dA 2, N, .inl (fun _ => 0)))) (hdg : decode cc pc = .ok (.newarray .byte, 2))
    (kk : ∀ (q : Nat) (H1 : Heap), (Γ q).1 = 0 → sz ≤ q → q = H.size → ty_ok (dC, dI) vwCl (va_up Γ q t) (TP dA (va_up Γ q t) g) sz X H1 → va_S (ty_A sz) H0 H1 locs → W p l e R s m args below meth c H1 locs (cells + 1) (slots + N) Q (F0 m (pc + 2) ls (.ref q :: rest))) : W p l e R s m args below meth c H locs cells slots Q (F0 m pc ls (.int n :: rest)) := by
  refine va_newaK (atype := .byte) (N := N) hx hb (hA _ hw) rfl hdg rfl (fun h => by have := ty_lt32.mp h; rw [hn, Int32.toInt_zero] at this; omega) (by show n.toInt.toNat = N; omega) hby hcells hslots rfl fun H1 cA e1 z1 o1 hAr hNm => ?_
  have h1 := (hE.1.2 2 (dA 2, .byte) rfl).2
  obtain rfl : cA = dA 2 := Option.some.inj (hNm.symm.trans h1)
  have hq := ty_new0 hG
  exact kk H.size H1 hq hG.1 rfl (tp_adopt (ty_push (x := .inl (dA 2, N, .inl (fun _ => 0))) hG rfl (by omega) o1 e1) (hT _)) (hS0.grow (by omega) o1)
theorem new_J (hx : p.tables.exec = Jvm.exec) (hb : c.code = cc) (hA : ∀ w ∈ AL, w.before args s = true) (hE : en dC dI dA sz s) (hG : ty_ok (dC, dI) vwCl Γ (TP dA Γ g) sz X H) (hS0 : va_S (ty_A sz) H0 H locs) (hw : Cond.arrayClass .long ∈ AL) {n : Int32} {N : Nat} (hn : n.toInt = N) (hby : N * componentBytes .long ≤ 536870912) (hcells : cells + 1 ≤ R.cells) (hslots : slots + N ≤ R.slots) (t : ty_N) (hT : ∀ Γ' : ty_G, TP dA Γ' g t (.inl (dA 3, N, .inr (.inl (fun _ => 0))))) (hdg : decode cc pc = .ok (.newarray .long, 2))
    (kk : ∀ (q : Nat) (H1 : Heap), (Γ q).1 = 0 → sz ≤ q → q = H.size → ty_ok (dC, dI) vwCl (va_up Γ q t) (TP dA (va_up Γ q t) g) sz X H1 → va_S (ty_A sz) H0 H1 locs → W p l e R s m args below meth c H1 locs (cells + 1) (slots + N) Q (F0 m (pc + 2) ls (.ref q :: rest))) : W p l e R s m args below meth c H locs cells slots Q (F0 m pc ls (.int n :: rest)) := by
  refine va_newaK (atype := .long) (N := N) hx hb (hA _ hw) rfl hdg rfl (fun h => by have := ty_lt32.mp h; rw [hn, Int32.toInt_zero] at this; omega) (by show n.toInt.toNat = N; omega) hby hcells hslots rfl fun H1 cA e1 z1 o1 hAr hNm => ?_
  have h1 := (hE.1.2 3 (dA 3, .long) rfl).2
  obtain rfl : cA = dA 3 := Option.some.inj (hNm.symm.trans h1)
  have hq := ty_new0 hG
  exact kk H.size H1 hq hG.1 rfl (tp_adopt (ty_push (x := .inl (dA 3, N, .inr (.inl (fun _ => 0)))) hG rfl (by omega) o1 e1) (hT _)) (hS0.grow (by omega) o1)
theorem new_R4 (hx : p.tables.exec = Jvm.exec) (hb : c.code = cc) (hA : ∀ w ∈ AL, w.before args s = true) (hE : en dC dI dA sz s) (hG : ty_ok (dC, dI) vwCl Γ (TP dA Γ g) sz X H) (hS0 : va_S (ty_A sz) H0 H locs) {own : String} {index : Nat} (hown : s.vm.findClass own = some m.cls) (hw : Cond.classLink own index RX1 ∈ AL) {n : Int32} {N : Nat} (hn : n.toInt = N) (hby : N * 4 ≤ 536870912) (hcells : cells + 1 ≤ R.cells) (hslots : slots + N ≤ R.slots) (t : ty_N) (hT : ∀ Γ' : ty_G, TP dA Γ' g t (.inl (dA 4, N, .inr (.inr (.inr (.inr (fun _ => none))))))) (hdg : decode cc pc = .ok (.anewarray index, 3))
    (kk : ∀ (q : Nat) (H1 : Heap), (Γ q).1 = 0 → sz ≤ q → q = H.size → ty_ok (dC, dI) vwCl (va_up Γ q t) (TP dA (va_up Γ q t) g) sz X H1 → va_S (ty_A sz) H0 H1 locs → W p l e R s m args below meth c H1 locs (cells + 1) (slots + N) Q (F0 m (pc + 3) ls (.ref q :: rest))) : W p l e R s m args below meth c H locs cells slots Q (F0 m pc ls (.int n :: rest)) := by
  have hN : n.toNatClampNeg = N := by show n.toInt.toNat = N; omega
  subst hN
  refine W.anew hx hb hown (hA _ hw) (va_AO.use hE.2.2.1) rfl hdg rfl (fun h => by have := ty_lt32.mp h; rw [hn, Int32.toInt_zero] at this; omega) hby hcells hslots fun cA kK comp f1 f2 f3 f4 => ?_
  generalize hH1 : H.push ({ cls := cA, slots := Array.replicate n.toNatClampNeg .null, vm := .none } : Cell) = H1
  have z1 : H1.size = H.size + 1 := by rw [← hH1, Array.size_push]
  have e1 : H1[H.size]? = some (arrV cA n.toNatClampNeg (fun _ => .null)) := by rw [← hH1, Array.getElem?_push_size, ← arrV_new]
  have o1 : ∀ q : Nat, q < H.size → H1[q]? = H[q]? := fun q hq => by rw [← hH1, Array.getElem?_push, if_neg (Nat.ne_of_lt hq)]
  obtain ⟨k9, c9, -, -, -, h9⟩ := (hE.1.2 4 (dA 4, .object RX1) rfl).2
  obtain rfl : cA = dA 4 := Option.some.inj (f1.symm.trans h9)
  have hq := ty_new0 hG
  exact kk H.size H1 hq hG.1 rfl (tp_adopt (ty_push (x := .inl (dA 4, n.toNatClampNeg, .inr (.inr (.inr (.inr (fun _ => none)))))) hG rfl (by omega) o1 e1) (hT _)) (hS0.grow (by omega) o1)
theorem new_R5 (hx : p.tables.exec = Jvm.exec) (hb : c.code = cc) (hA : ∀ w ∈ AL, w.before args s = true) (hE : en dC dI dA sz s) (hG : ty_ok (dC, dI) vwCl Γ (TP dA Γ g) sz X H) (hS0 : va_S (ty_A sz) H0 H locs) {own : String} {index : Nat} (hown : s.vm.findClass own = some m.cls) (hw : Cond.classLink own index RX3 ∈ AL) {n : Int32} {N : Nat} (hn : n.toInt = N) (hby : N * 4 ≤ 536870912) (hcells : cells + 1 ≤ R.cells) (hslots : slots + N ≤ R.slots) (t : ty_N) (hT : ∀ Γ' : ty_G, TP dA Γ' g t (.inl (dA 5, N, .inr (.inr (.inr (.inr (fun _ => none))))))) (hdg : decode cc pc = .ok (.anewarray index, 3))
    (kk : ∀ (q : Nat) (H1 : Heap), (Γ q).1 = 0 → sz ≤ q → q = H.size → ty_ok (dC, dI) vwCl (va_up Γ q t) (TP dA (va_up Γ q t) g) sz X H1 → va_S (ty_A sz) H0 H1 locs → W p l e R s m args below meth c H1 locs (cells + 1) (slots + N) Q (F0 m (pc + 3) ls (.ref q :: rest))) : W p l e R s m args below meth c H locs cells slots Q (F0 m pc ls (.int n :: rest)) := by
  have hN : n.toNatClampNeg = N := by show n.toInt.toNat = N; omega
  subst hN
  refine W.anew hx hb hown (hA _ hw) (va_AO.use hE.2.2.2.1) rfl hdg rfl (fun h => by have := ty_lt32.mp h; rw [hn, Int32.toInt_zero] at this; omega) hby hcells hslots fun cA kK comp f1 f2 f3 f4 => ?_
  generalize hH1 : H.push ({ cls := cA, slots := Array.replicate n.toNatClampNeg .null, vm := .none } : Cell) = H1
  have z1 : H1.size = H.size + 1 := by rw [← hH1, Array.size_push]
  have e1 : H1[H.size]? = some (arrV cA n.toNatClampNeg (fun _ => .null)) := by rw [← hH1, Array.getElem?_push_size, ← arrV_new]
  have o1 : ∀ q : Nat, q < H.size → H1[q]? = H[q]? := fun q hq => by rw [← hH1, Array.getElem?_push, if_neg (Nat.ne_of_lt hq)]
  obtain ⟨k9, c9, -, -, -, h9⟩ := (hE.1.2 5 (dA 5, .object RX3) rfl).2
  obtain rfl : cA = dA 5 := Option.some.inj (f1.symm.trans h9)
  have hq := ty_new0 hG
  exact kk H.size H1 hq hG.1 rfl (tp_adopt (ty_push (x := .inl (dA 5, n.toNatClampNeg, .inr (.inr (.inr (.inr (fun _ => none)))))) hG rfl (by omega) o1 e1) (hT _)) (hS0.grow (by omega) o1)
theorem new_R6 (hx : p.tables.exec = Jvm.exec) (hb : c.code = cc) (hA : ∀ w ∈ AL, w.before args s = true) (hE : en dC dI dA sz s) (hG : ty_ok (dC, dI) vwCl Γ (TP dA Γ g) sz X H) (hS0 : va_S (ty_A sz) H0 H locs) {own : String} {index : Nat} (hown : s.vm.findClass own = some m.cls) (hw : Cond.classLink own index RX2 ∈ AL) {n : Int32} {N : Nat} (hn : n.toInt = N) (hby : N * 4 ≤ 536870912) (hcells : cells + 1 ≤ R.cells) (hslots : slots + N ≤ R.slots) (t : ty_N) (hT : ∀ Γ' : ty_G, TP dA Γ' g t (.inl (dA 6, N, .inr (.inr (.inr (.inr (fun _ => none))))))) (hdg : decode cc pc = .ok (.anewarray index, 3))
    (kk : ∀ (q : Nat) (H1 : Heap), (Γ q).1 = 0 → sz ≤ q → q = H.size → ty_ok (dC, dI) vwCl (va_up Γ q t) (TP dA (va_up Γ q t) g) sz X H1 → va_S (ty_A sz) H0 H1 locs → W p l e R s m args below meth c H1 locs (cells + 1) (slots + N) Q (F0 m (pc + 3) ls (.ref q :: rest))) : W p l e R s m args below meth c H locs cells slots Q (F0 m pc ls (.int n :: rest)) := by
  have hN : n.toNatClampNeg = N := by show n.toInt.toNat = N; omega
  subst hN
  refine W.anew hx hb hown (hA _ hw) (va_AO.use hE.2.2.2.2.1) rfl hdg rfl (fun h => by have := ty_lt32.mp h; rw [hn, Int32.toInt_zero] at this; omega) hby hcells hslots fun cA kK comp f1 f2 f3 f4 => ?_
  generalize hH1 : H.push ({ cls := cA, slots := Array.replicate n.toNatClampNeg .null, vm := .none } : Cell) = H1
  have z1 : H1.size = H.size + 1 := by rw [← hH1, Array.size_push]
  have e1 : H1[H.size]? = some (arrV cA n.toNatClampNeg (fun _ => .null)) := by rw [← hH1, Array.getElem?_push_size, ← arrV_new]
  have o1 : ∀ q : Nat, q < H.size → H1[q]? = H[q]? := fun q hq => by rw [← hH1, Array.getElem?_push, if_neg (Nat.ne_of_lt hq)]
  obtain ⟨k9, c9, -, -, -, h9⟩ := (hE.1.2 6 (dA 6, .object RX2) rfl).2
  obtain rfl : cA = dA 6 := Option.some.inj (f1.symm.trans h9)
  have hq := ty_new0 hG
  exact kk H.size H1 hq hG.1 rfl (tp_adopt (ty_push (x := .inl (dA 6, n.toNatClampNeg, .inr (.inr (.inr (.inr (fun _ => none)))))) hG rfl (by omega) o1 e1) (hT _)) (hS0.grow (by omega) o1)
abbrev dv_X0 : List Value := [.null, .null, .null, .int 0, .int 0, .int 0]
theorem new_X0 (hx : p.tables.exec = Jvm.exec) (hb : c.code = cc) (hA : ∀ w ∈ AL, w.before args s = true) (hE : en dC dI dA sz s) (hG : ty_ok (dC, dI) vwCl Γ (TP dA Γ g) sz X H) (hS0 : va_S (ty_A sz) H0 H locs) {own : String} {index : Nat} (hown : s.vm.findClass own = some m.cls) (hw : Cond.classLink own index RX0 ∈ AL) (hw2 : Cond.instantiable RX0 6 ∈ AL) (hw3 : Cond.initialized RX0 ∈ AL) (hcells : cells + 1 ≤ R.cells) (hslots : slots + 6 ≤ R.slots) (hdg : decode cc pc = .ok (.new index, 3))
    (kk : ∀ (q : Nat) (H1 : Heap), (Γ q).1 = 0 → sz ≤ q → q = H.size → ty_ok (dC, dI) vwCl Γ (TP dA Γ g) sz ((q, .inr (0, dv_X0)) :: X) H1 → va_S (ty_A sz) H0 H1 locs → W p l e R s m args below meth c H1 locs (cells + 1) (slots + 6) Q (F0 m (pc + 3) ls (.ref q :: rest))) : W p l e R s m args below meth c H locs cells slots Q (F0 m pc ls rest) := by
  have hKn := hE.1.1 0 (RX0, TX0, 6) rfl
  refine W.newcK hx hb hown (hA _ hw) (hA _ hw2) (hA _ hw3) rfl hdg hcells hslots hKn.2.1 rfl fun H1 kC hkC e1 z1 o1 => ?_
  refine kk H.size H1 (ty_new0 hG) hG.1 rfl (ty_push (x := .inr (0, dv_X0)) hG rfl (by omega) o1 ⟨_, rfl, (u_born tyX0 hA in_X0 hKn hkC e1 tyX0_ok).to (fun j hj => ?_)⟩) (hS0.grow (by omega) o1)
  match j, hj with
  | 0, _ => rfl
  | 1, _ => rfl
  | 2, _ => rfl
  | 3, _ => rfl
  | 4, _ => rfl
  | 5, _ => rfl
abbrev dv_X1 : List Value := [.int 0, .int 0, .int 0, .null, .null, .null]
theorem new_X1 (hx : p.tables.exec = Jvm.exec) (hb : c.code = cc) (hA : ∀ w ∈ AL, w.before args s = true) (hE : en dC dI dA sz s) (hG : ty_ok (dC, dI) vwCl Γ (TP dA Γ g) sz X H) (hS0 : va_S (ty_A sz) H0 H locs) {own : String} {index : Nat} (hown : s.vm.findClass own = some m.cls) (hw : Cond.classLink own index RX1 ∈ AL) (hw2 : Cond.instantiable RX1 6 ∈ AL) (hw3 : Cond.initialized RX1 ∈ AL) (hcells : cells + 1 ≤ R.cells) (hslots : slots + 6 ≤ R.slots) (hdg : decode cc pc = .ok (.new index, 3))
    (kk : ∀ (q : Nat) (H1 : Heap), (Γ q).1 = 0 → sz ≤ q → q = H.size → ty_ok (dC, dI) vwCl Γ (TP dA Γ g) sz ((q, .inr (1, dv_X1)) :: X) H1 → va_S (ty_A sz) H0 H1 locs → W p l e R s m args below meth c H1 locs (cells + 1) (slots + 6) Q (F0 m (pc + 3) ls (.ref q :: rest))) : W p l e R s m args below meth c H locs cells slots Q (F0 m pc ls rest) := by
  have hKn := hE.1.1 1 (RX1, TX1, 6) rfl
  refine W.newcK hx hb hown (hA _ hw) (hA _ hw2) (hA _ hw3) rfl hdg hcells hslots hKn.2.1 rfl fun H1 kC hkC e1 z1 o1 => ?_
  refine kk H.size H1 (ty_new0 hG) hG.1 rfl (ty_push (x := .inr (1, dv_X1)) hG rfl (by omega) o1 ⟨_, rfl, (u_born tyX1 hA in_X1 hKn hkC e1 tyX1_ok).to (fun j hj => ?_)⟩) (hS0.grow (by omega) o1)
  match j, hj with
  | 0, _ => rfl
  | 1, _ => rfl
  | 2, _ => rfl
  | 3, _ => rfl
  | 4, _ => rfl
  | 5, _ => rfl
abbrev dv_X2 : List Value := [.int 0, .null, .null, .int 0, .int 0, .int 0, .int 0, .null, .null, .null]
theorem new_X2 (hx : p.tables.exec = Jvm.exec) (hb : c.code = cc) (hA : ∀ w ∈ AL, w.before args s = true) (hE : en dC dI dA sz s) (hG : ty_ok (dC, dI) vwCl Γ (TP dA Γ g) sz X H) (hS0 : va_S (ty_A sz) H0 H locs) {own : String} {index : Nat} (hown : s.vm.findClass own = some m.cls) (hw : Cond.classLink own index RX2 ∈ AL) (hw2 : Cond.instantiable RX2 10 ∈ AL) (hw3 : Cond.initialized RX2 ∈ AL) (hcells : cells + 1 ≤ R.cells) (hslots : slots + 10 ≤ R.slots) (hdg : decode cc pc = .ok (.new index, 3))
    (kk : ∀ (q : Nat) (H1 : Heap), (Γ q).1 = 0 → sz ≤ q → q = H.size → ty_ok (dC, dI) vwCl Γ (TP dA Γ g) sz ((q, .inr (2, dv_X2)) :: X) H1 → va_S (ty_A sz) H0 H1 locs → W p l e R s m args below meth c H1 locs (cells + 1) (slots + 10) Q (F0 m (pc + 3) ls (.ref q :: rest))) : W p l e R s m args below meth c H locs cells slots Q (F0 m pc ls rest) := by
  have hKn := hE.1.1 2 (RX2, TX2, 10) rfl
  refine W.newcK hx hb hown (hA _ hw) (hA _ hw2) (hA _ hw3) rfl hdg hcells hslots hKn.2.1 rfl fun H1 kC hkC e1 z1 o1 => ?_
  refine kk H.size H1 (ty_new0 hG) hG.1 rfl (ty_push (x := .inr (2, dv_X2)) hG rfl (by omega) o1 ⟨_, rfl, (u_born tyX2 hA in_X2 hKn hkC e1 tyX2_ok).to (fun j hj => ?_)⟩) (hS0.grow (by omega) o1)
  match j, hj with
  | 0, _ => rfl
  | 1, _ => rfl
  | 2, _ => rfl
  | 3, _ => rfl
  | 4, _ => rfl
  | 5, _ => rfl
  | 6, _ => rfl
  | 7, _ => rfl
  | 8, _ => rfl
  | 9, _ => rfl
abbrev dv_X3 : List Value := [.int 0, .int 0, .int 0, .int 0, .int 0, .int 0, .int 0, .null]
theorem new_X3 (hx : p.tables.exec = Jvm.exec) (hb : c.code = cc) (hA : ∀ w ∈ AL, w.before args s = true) (hE : en dC dI dA sz s) (hG : ty_ok (dC, dI) vwCl Γ (TP dA Γ g) sz X H) (hS0 : va_S (ty_A sz) H0 H locs) {own : String} {index : Nat} (hown : s.vm.findClass own = some m.cls) (hw : Cond.classLink own index RX3 ∈ AL) (hw2 : Cond.instantiable RX3 8 ∈ AL) (hw3 : Cond.initialized RX3 ∈ AL) (hcells : cells + 1 ≤ R.cells) (hslots : slots + 8 ≤ R.slots) (hdg : decode cc pc = .ok (.new index, 3))
    (kk : ∀ (q : Nat) (H1 : Heap), (Γ q).1 = 0 → sz ≤ q → q = H.size → ty_ok (dC, dI) vwCl Γ (TP dA Γ g) sz ((q, .inr (3, dv_X3)) :: X) H1 → va_S (ty_A sz) H0 H1 locs → W p l e R s m args below meth c H1 locs (cells + 1) (slots + 8) Q (F0 m (pc + 3) ls (.ref q :: rest))) : W p l e R s m args below meth c H locs cells slots Q (F0 m pc ls rest) := by
  have hKn := hE.1.1 3 (RX3, TX3, 8) rfl
  refine W.newcK hx hb hown (hA _ hw) (hA _ hw2) (hA _ hw3) rfl hdg hcells hslots hKn.2.1 rfl fun H1 kC hkC e1 z1 o1 => ?_
  refine kk H.size H1 (ty_new0 hG) hG.1 rfl (ty_push (x := .inr (3, dv_X3)) hG rfl (by omega) o1 ⟨_, rfl, (u_born tyX3 hA in_X3 hKn hkC e1 tyX3_ok).to (fun j hj => ?_)⟩) (hS0.grow (by omega) o1)
  match j, hj with
  | 0, _ => rfl
  | 1, _ => rfl
  | 2, _ => rfl
  | 3, _ => rfl
  | 4, _ => rfl
  | 5, _ => rfl
  | 6, _ => rfl
  | 7, _ => rfl
abbrev dv_X4 : List Value := [.null, .int 0, .int 0, .int 0, .int 0, .int 0, .int 0, .int 0]
theorem new_X4 (hx : p.tables.exec = Jvm.exec) (hb : c.code = cc) (hA : ∀ w ∈ AL, w.before args s = true) (hE : en dC dI dA sz s) (hG : ty_ok (dC, dI) vwCl Γ (TP dA Γ g) sz X H) (hS0 : va_S (ty_A sz) H0 H locs) {own : String} {index : Nat} (hown : s.vm.findClass own = some m.cls) (hw : Cond.classLink own index RX4 ∈ AL) (hw2 : Cond.instantiable RX4 8 ∈ AL) (hw3 : Cond.initialized RX4 ∈ AL) (hcells : cells + 1 ≤ R.cells) (hslots : slots + 8 ≤ R.slots) (hdg : decode cc pc = .ok (.new index, 3))
    (kk : ∀ (q : Nat) (H1 : Heap), (Γ q).1 = 0 → sz ≤ q → q = H.size → ty_ok (dC, dI) vwCl Γ (TP dA Γ g) sz ((q, .inr (4, dv_X4)) :: X) H1 → va_S (ty_A sz) H0 H1 locs → W p l e R s m args below meth c H1 locs (cells + 1) (slots + 8) Q (F0 m (pc + 3) ls (.ref q :: rest))) : W p l e R s m args below meth c H locs cells slots Q (F0 m pc ls rest) := by
  have hKn := hE.1.1 4 (RX4, TX4, 8) rfl
  refine W.newcK hx hb hown (hA _ hw) (hA _ hw2) (hA _ hw3) rfl hdg hcells hslots hKn.2.1 rfl fun H1 kC hkC e1 z1 o1 => ?_
  refine kk H.size H1 (ty_new0 hG) hG.1 rfl (ty_push (x := .inr (4, dv_X4)) hG rfl (by omega) o1 ⟨_, rfl, (u_born tyX4 hA in_X4 hKn hkC e1 tyX4_ok).to (fun j hj => ?_)⟩) (hS0.grow (by omega) o1)
  match j, hj with
  | 0, _ => rfl
  | 1, _ => rfl
  | 2, _ => rfl
  | 3, _ => rfl
  | 4, _ => rfl
  | 5, _ => rfl
  | 6, _ => rfl
  | 7, _ => rfl
abbrev dv_X5 : List Value := [.null, .int 0, .null, .null, .null, .null, .int 0]
theorem new_X5 (hx : p.tables.exec = Jvm.exec) (hb : c.code = cc) (hA : ∀ w ∈ AL, w.before args s = true) (hE : en dC dI dA sz s) (hG : ty_ok (dC, dI) vwCl Γ (TP dA Γ g) sz X H) (hS0 : va_S (ty_A sz) H0 H locs) {own : String} {index : Nat} (hown : s.vm.findClass own = some m.cls) (hw : Cond.classLink own index RX5 ∈ AL) (hw2 : Cond.instantiable RX5 7 ∈ AL) (hw3 : Cond.initialized RX5 ∈ AL) (hcells : cells + 1 ≤ R.cells) (hslots : slots + 7 ≤ R.slots) (hdg : decode cc pc = .ok (.new index, 3))
    (kk : ∀ (q : Nat) (H1 : Heap), (Γ q).1 = 0 → sz ≤ q → q = H.size → ty_ok (dC, dI) vwCl Γ (TP dA Γ g) sz ((q, .inr (5, dv_X5)) :: X) H1 → va_S (ty_A sz) H0 H1 locs → W p l e R s m args below meth c H1 locs (cells + 1) (slots + 7) Q (F0 m (pc + 3) ls (.ref q :: rest))) : W p l e R s m args below meth c H locs cells slots Q (F0 m pc ls rest) := by
  have hKn := hE.1.1 5 (RX5, TX5, 7) rfl
  refine W.newcK hx hb hown (hA _ hw) (hA _ hw2) (hA _ hw3) rfl hdg hcells hslots hKn.2.1 rfl fun H1 kC hkC e1 z1 o1 => ?_
  refine kk H.size H1 (ty_new0 hG) hG.1 rfl (ty_push (x := .inr (5, dv_X5)) hG rfl (by omega) o1 ⟨_, rfl, (u_born tyX5 hA in_X5 hKn hkC e1 tyX5_ok).to (fun j hj => ?_)⟩) (hS0.grow (by omega) o1)
  match j, hj with
  | 0, _ => rfl
  | 1, _ => rfl
  | 2, _ => rfl
  | 3, _ => rfl
  | 4, _ => rfl
  | 5, _ => rfl
  | 6, _ => rfl
abbrev dv_X6 : List Value := [.null, .null, .null, .int 0, .int 0]
theorem new_X6 (hx : p.tables.exec = Jvm.exec) (hb : c.code = cc) (hA : ∀ w ∈ AL, w.before args s = true) (hE : en dC dI dA sz s) (hG : ty_ok (dC, dI) vwCl Γ (TP dA Γ g) sz X H) (hS0 : va_S (ty_A sz) H0 H locs) {own : String} {index : Nat} (hown : s.vm.findClass own = some m.cls) (hw : Cond.classLink own index RX6 ∈ AL) (hw2 : Cond.instantiable RX6 5 ∈ AL) (hw3 : Cond.initialized RX6 ∈ AL) (hcells : cells + 1 ≤ R.cells) (hslots : slots + 5 ≤ R.slots) (hdg : decode cc pc = .ok (.new index, 3))
    (kk : ∀ (q : Nat) (H1 : Heap), (Γ q).1 = 0 → sz ≤ q → q = H.size → ty_ok (dC, dI) vwCl Γ (TP dA Γ g) sz ((q, .inr (6, dv_X6)) :: X) H1 → va_S (ty_A sz) H0 H1 locs → W p l e R s m args below meth c H1 locs (cells + 1) (slots + 5) Q (F0 m (pc + 3) ls (.ref q :: rest))) : W p l e R s m args below meth c H locs cells slots Q (F0 m pc ls rest) := by
  have hKn := hE.1.1 6 (RX6, TX6, 5) rfl
  refine W.newcK hx hb hown (hA _ hw) (hA _ hw2) (hA _ hw3) rfl hdg hcells hslots hKn.2.1 rfl fun H1 kC hkC e1 z1 o1 => ?_
  refine kk H.size H1 (ty_new0 hG) hG.1 rfl (ty_push (x := .inr (6, dv_X6)) hG rfl (by omega) o1 ⟨_, rfl, (u_born tyX6 hA in_X6 hKn hkC e1 tyX6_ok).to (fun j hj => ?_)⟩) (hS0.grow (by omega) o1)
  match j, hj with
  | 0, _ => rfl
  | 1, _ => rfl
  | 2, _ => rfl
  | 3, _ => rfl
  | 4, _ => rfl
abbrev dv_X7 : List Value := [.int 0, .int 0, .int 0, .int 0]
theorem new_X7 (hx : p.tables.exec = Jvm.exec) (hb : c.code = cc) (hA : ∀ w ∈ AL, w.before args s = true) (hE : en dC dI dA sz s) (hG : ty_ok (dC, dI) vwCl Γ (TP dA Γ g) sz X H) (hS0 : va_S (ty_A sz) H0 H locs) {own : String} {index : Nat} (hown : s.vm.findClass own = some m.cls) (hw : Cond.classLink own index RX7 ∈ AL) (hw2 : Cond.instantiable RX7 4 ∈ AL) (hw3 : Cond.initialized RX7 ∈ AL) (hcells : cells + 1 ≤ R.cells) (hslots : slots + 4 ≤ R.slots) (hdg : decode cc pc = .ok (.new index, 3))
    (kk : ∀ (q : Nat) (H1 : Heap), (Γ q).1 = 0 → sz ≤ q → q = H.size → ty_ok (dC, dI) vwCl Γ (TP dA Γ g) sz ((q, .inr (7, dv_X7)) :: X) H1 → va_S (ty_A sz) H0 H1 locs → W p l e R s m args below meth c H1 locs (cells + 1) (slots + 4) Q (F0 m (pc + 3) ls (.ref q :: rest))) : W p l e R s m args below meth c H locs cells slots Q (F0 m pc ls rest) := by
  have hKn := hE.1.1 7 (RX7, TX7, 4) rfl
  refine W.newcK hx hb hown (hA _ hw) (hA _ hw2) (hA _ hw3) rfl hdg hcells hslots hKn.2.1 rfl fun H1 kC hkC e1 z1 o1 => ?_
  refine kk H.size H1 (ty_new0 hG) hG.1 rfl (ty_push (x := .inr (7, dv_X7)) hG rfl (by omega) o1 ⟨_, rfl, (u_born tyX7 hA in_X7 hKn hkC e1 tyX7_ok).to (fun j hj => ?_)⟩) (hS0.grow (by omega) o1)
  match j, hj with
  | 0, _ => rfl
  | 1, _ => rfl
  | 2, _ => rfl
  | 3, _ => rfl
abbrev dv_X8 : List Value := [.null, .int 0, .null, .int 0, .null, .int 0, .null, .null, .null, .int 0, .int 0, .null, .null]
theorem new_X8 (hx : p.tables.exec = Jvm.exec) (hb : c.code = cc) (hA : ∀ w ∈ AL, w.before args s = true) (hE : en dC dI dA sz s) (hG : ty_ok (dC, dI) vwCl Γ (TP dA Γ g) sz X H) (hS0 : va_S (ty_A sz) H0 H locs) {own : String} {index : Nat} (hown : s.vm.findClass own = some m.cls) (hw : Cond.classLink own index RX8 ∈ AL) (hw2 : Cond.instantiable RX8 13 ∈ AL) (hw3 : Cond.initialized RX8 ∈ AL) (hcells : cells + 1 ≤ R.cells) (hslots : slots + 13 ≤ R.slots) (hdg : decode cc pc = .ok (.new index, 3))
    (kk : ∀ (q : Nat) (H1 : Heap), (Γ q).1 = 0 → sz ≤ q → q = H.size → ty_ok (dC, dI) vwCl Γ (TP dA Γ g) sz ((q, .inr (8, dv_X8)) :: X) H1 → va_S (ty_A sz) H0 H1 locs → W p l e R s m args below meth c H1 locs (cells + 1) (slots + 13) Q (F0 m (pc + 3) ls (.ref q :: rest))) : W p l e R s m args below meth c H locs cells slots Q (F0 m pc ls rest) := by
  have hKn := hE.1.1 8 (RX8, TX8, 13) rfl
  refine W.newcK hx hb hown (hA _ hw) (hA _ hw2) (hA _ hw3) rfl hdg hcells hslots hKn.2.1 rfl fun H1 kC hkC e1 z1 o1 => ?_
  refine kk H.size H1 (ty_new0 hG) hG.1 rfl (ty_push (x := .inr (8, dv_X8)) hG rfl (by omega) o1 ⟨_, rfl, (u_born tyX8 hA in_X8 hKn hkC e1 tyX8_ok).to (fun j hj => ?_)⟩) (hS0.grow (by omega) o1)
  match j, hj with
  | 0, _ => rfl
  | 1, _ => rfl
  | 2, _ => rfl
  | 3, _ => rfl
  | 4, _ => rfl
  | 5, _ => rfl
  | 6, _ => rfl
  | 7, _ => rfl
  | 8, _ => rfl
  | 9, _ => rfl
  | 10, _ => rfl
  | 11, _ => rfl
  | 12, _ => rfl
abbrev dv_X9 : List Value := [.int 0, .int 0, .null, .null, .int 0, .null, .null, .null, .null, .null, .null, .int 0, .int 0, .null, .int 0, .int 0, .int 0, .int 0, .int 0, .int 0, .int 0, .int 0, .int 0, .null, .int 0, .null, .int 0, .null, .null, .null, .null, .null, .null, .null, .null, .null, .null, .int 0, .null, .null, .null, .int 0, .int 0, .int 0, .null, .null, .null]
theorem new_X9 (hx : p.tables.exec = Jvm.exec) (hb : c.code = cc) (hA : ∀ w ∈ AL, w.before args s = true) (hE : en dC dI dA sz s) (hG : ty_ok (dC, dI) vwCl Γ (TP dA Γ g) sz X H) (hS0 : va_S (ty_A sz) H0 H locs) {own : String} {index : Nat} (hown : s.vm.findClass own = some m.cls) (hw : Cond.classLink own index RX9 ∈ AL) (hw2 : Cond.instantiable RX9 47 ∈ AL) (hw3 : Cond.initialized RX9 ∈ AL) (hcells : cells + 1 ≤ R.cells) (hslots : slots + 47 ≤ R.slots) (hdg : decode cc pc = .ok (.new index, 3))
    (kk : ∀ (q : Nat) (H1 : Heap), (Γ q).1 = 0 → sz ≤ q → q = H.size → ty_ok (dC, dI) vwCl Γ (TP dA Γ g) sz ((q, .inr (9, dv_X9)) :: X) H1 → va_S (ty_A sz) H0 H1 locs → W p l e R s m args below meth c H1 locs (cells + 1) (slots + 47) Q (F0 m (pc + 3) ls (.ref q :: rest))) : W p l e R s m args below meth c H locs cells slots Q (F0 m pc ls rest) := by
  have hKn := hE.1.1 9 (RX9, TX9, 47) rfl
  refine W.newcK hx hb hown (hA _ hw) (hA _ hw2) (hA _ hw3) rfl hdg hcells hslots hKn.2.1 rfl fun H1 kC hkC e1 z1 o1 => ?_
  refine kk H.size H1 (ty_new0 hG) hG.1 rfl (ty_push (x := .inr (9, dv_X9)) hG rfl (by omega) o1 ⟨_, rfl, (u_born tyX9 hA in_X9 hKn hkC e1 tyX9_ok).to (fun j hj => ?_)⟩) (hS0.grow (by omega) o1)
  match j, hj with
  | 0, _ => rfl
  | 1, _ => rfl
  | 2, _ => rfl
  | 3, _ => rfl
  | 4, _ => rfl
  | 5, _ => rfl
  | 6, _ => rfl
  | 7, _ => rfl
  | 8, _ => rfl
  | 9, _ => rfl
  | 10, _ => rfl
  | 11, _ => rfl
  | 12, _ => rfl
  | 13, _ => rfl
  | 14, _ => rfl
  | 15, _ => rfl
  | 16, _ => rfl
  | 17, _ => rfl
  | 18, _ => rfl
  | 19, _ => rfl
  | 20, _ => rfl
  | 21, _ => rfl
  | 22, _ => rfl
  | 23, _ => rfl
  | 24, _ => rfl
  | 25, _ => rfl
  | 26, _ => rfl
  | 27, _ => rfl
  | 28, _ => rfl
  | 29, _ => rfl
  | 30, _ => rfl
  | 31, _ => rfl
  | 32, _ => rfl
  | 33, _ => rfl
  | 34, _ => rfl
  | 35, _ => rfl
  | 36, _ => rfl
  | 37, _ => rfl
  | 38, _ => rfl
  | 39, _ => rfl
  | 40, _ => rfl
  | 41, _ => rfl
  | 42, _ => rfl
  | 43, _ => rfl
  | 44, _ => rfl
  | 45, _ => rfl
  | 46, _ => rfl
  | j + 47, h => exact absurd h (by omega)
/-- a field of an object that is being made -/
theorem rw_X0 {fs : List Value} (hx : p.tables.exec = Jvm.exec) (hb : c.code = cc) (hA : ∀ w ∈ AL, w.before args s = true) (hE : en dC dI dA sz s) (hG : ty_ok (dC, dI) vwCl Γ (TP dA Γ g) sz ((a, .inr (0, fs)) :: X) H) (hS0 : va_S (ty_A sz) H0 H locs) {own : String} {index : Nat} (hown : s.vm.findClass own = some m.cls) (hin2 : meth.name = "<init>") (hdecl : "WeekBank$FeeRounds" = own) (k : Nat) (hk : k < 6) (hl : Cond.fieldLink own index "WeekBank$FeeRounds" (TX0 k).2.1 (TX0 k).2.2.1 ∈ AL) (hrf : (TX0 k).1 = "WeekBank$FeeRounds") {v : Value} {ty : FieldType} (hd : parseFieldDescriptor (TX0 k).2.2.1 = some ty) (hn : narrow ty v = v) (hfit : fits ty v = true) (hlen : k < fs.length)
    (hdg : decode cc pc = .ok (.putfield index, 3)) (kk : ∀ (H1 : Heap) (locs1 : List Loc), ty_ok (dC, dI) vwCl Γ (TP dA Γ g) sz ((a, .inr (0, fs.set k v)) :: X) H1 → va_S (ty_A sz) H0 H1 locs1 → W p l e R s m args below meth c H1 locs1 cells slots Q (F0 m (pc + 3) ls rest)) : W p l e R s m args below meth c H locs cells slots Q (F0 m pc ls (v :: .ref a :: rest)) := by
  have hc : vwCl[0]? = some (RX0, TX0, 6) := rfl
  have hap := va_apart (own := own) hA in_X0 tyX0 tyX0_ok nmX0 hE.1 hc
  obtain ⟨hR, hu, hsa⟩ := hG.2.2.2 _ List.mem_cons_self
  obtain ⟨r, h1, cell, q1, q2, q3, q4⟩ := hR
  have hr : r = (RX0, TX0, 6) := Option.some.inj (h1.symm.trans hc)
  subst hr
  obtain ⟨hS, hfc, kC, hkC, hkind⟩ := hE.1.1 0 _ hc
  obtain ⟨cf, kf, fi, f, hi, hsl⟩ := hS k hk
  have hlay := hA _ (in_X0 _ (u_in_lay hk))
  have hst := (u_facts hfc hkC (u_lays hA in_X0 hk) hi).1
  have fin : ∀ (H' : Heap), H'[a]? = some (cell.setSlot f.slot v) → H'.size = H.size → (∀ q, q ≠ a → H'[q]? = H[q]?) → W p l e R s m args below meth c H' (locs ++ [⟨a, f.slot⟩]) cells slots Q (F0 m (pc + 3) ls rest) := fun H' e1 e2 e3 => by
    rw [hsl] at e1 ⊢
    exact kk H' _ (ty_rset hG e2 e3 ⟨_, hc, t_OB.to (V := updV (vp_V fs) k v) ⟨_, e1, q2, q3, t_set q4 hap hk v⟩ (fun j _ => vp_updV_set hlen v j)⟩) (ty_put_S hS0 e2 e3 hsa)
  have hi' : s.fieldFound? "WeekBank$FeeRounds" (TX0 k).2.1 (TX0 k).2.2.1 = some (cf, kf, fi, f) := by rw [← hrf]; exact hi
  by_cases hfin : (TX0 k).2.2.2 = true
  · unfold u_lay at hlay
    rw [if_pos hfin] at hlay
    have hcf : m.cls = cf := by
      obtain ⟨_, _, c', _, _, _, -, -, hf', -, -, -, hown2, -⟩ := Cond.laysFinal_spec hlay
      have e1 : c' = cf := by have := hi.symm.trans hf'; simp at this; exact this.1.symm
      rw [hrf, hdecl] at hown2
      rw [← e1]; exact Option.some.inj (hown.symm.trans hown2)
    have h6 := u_fits hfc hkC hkind (Or.inr hlay) hi hd hn hfit
    exact W.putFinK hx hb hown (hA _ hl) hi' hst hcf hin2 (by rw [q2]; exact h6) q1 q3 (by rw [hsl]; exact k2_hasslot (q4 k hk)) rfl rfl hdg fin
  · unfold u_lay at hlay
    rw [if_neg hfin] at hlay
    have h6 := u_store hfc hkC hkind hlay hi hd hn hfit
    exact W.putK hx hb (f := f) ⟨hown, hA _ hl, ⟨_, _, _, hi'⟩, hst⟩ (by rw [q2]; exact h6) q1 q3 (by rw [hsl]; exact k2_hasslot (q4 k hk)) rfl rfl hdg fin
/-- a field of an object that is being made -/
theorem rw_X1 {fs : List Value} (hx : p.tables.exec = Jvm.exec) (hb : c.code = cc) (hA : ∀ w ∈ AL, w.before args s = true) (hE : en dC dI dA sz s) (hG : ty_ok (dC, dI) vwCl Γ (TP dA Γ g) sz ((a, .inr (1, fs)) :: X) H) (hS0 : va_S (ty_A sz) H0 H locs) {own : String} {index : Nat} (hown : s.vm.findClass own = some m.cls) (hin2 : meth.name = "<init>") (hdecl : "WeekBank$Flat" = own) (k : Nat) (hk : k < 6) (hl : Cond.fieldLink own index "WeekBank$Flat" (TX1 k).2.1 (TX1 k).2.2.1 ∈ AL) (hrf : (TX1 k).1 = "WeekBank$Flat") {v : Value} {ty : FieldType} (hd : parseFieldDescriptor (TX1 k).2.2.1 = some ty) (hn : narrow ty v = v) (hfit : fits ty v = true) (hlen : k < fs.length)
    (hdg : decode cc pc = .ok (.putfield index, 3)) (kk : ∀ (H1 : Heap) (locs1 : List Loc), ty_ok (dC, dI) vwCl Γ (TP dA Γ g) sz ((a, .inr (1, fs.set k v)) :: X) H1 → va_S (ty_A sz) H0 H1 locs1 → W p l e R s m args below meth c H1 locs1 cells slots Q (F0 m (pc + 3) ls rest)) : W p l e R s m args below meth c H locs cells slots Q (F0 m pc ls (v :: .ref a :: rest)) := by
  have hc : vwCl[1]? = some (RX1, TX1, 6) := rfl
  have hap := va_apart (own := own) hA in_X1 tyX1 tyX1_ok nmX1 hE.1 hc
  obtain ⟨hR, hu, hsa⟩ := hG.2.2.2 _ List.mem_cons_self
  obtain ⟨r, h1, cell, q1, q2, q3, q4⟩ := hR
  have hr : r = (RX1, TX1, 6) := Option.some.inj (h1.symm.trans hc)
  subst hr
  obtain ⟨hS, hfc, kC, hkC, hkind⟩ := hE.1.1 1 _ hc
  obtain ⟨cf, kf, fi, f, hi, hsl⟩ := hS k hk
  have hlay := hA _ (in_X1 _ (u_in_lay hk))
  have hst := (u_facts hfc hkC (u_lays hA in_X1 hk) hi).1
  have fin : ∀ (H' : Heap), H'[a]? = some (cell.setSlot f.slot v) → H'.size = H.size → (∀ q, q ≠ a → H'[q]? = H[q]?) → W p l e R s m args below meth c H' (locs ++ [⟨a, f.slot⟩]) cells slots Q (F0 m (pc + 3) ls rest) := fun H' e1 e2 e3 => by
    rw [hsl] at e1 ⊢
    exact kk H' _ (ty_rset hG e2 e3 ⟨_, hc, t_OB.to (V := updV (vp_V fs) k v) ⟨_, e1, q2, q3, t_set q4 hap hk v⟩ (fun j _ => vp_updV_set hlen v j)⟩) (ty_put_S hS0 e2 e3 hsa)
  have hi' : s.fieldFound? "WeekBank$Flat" (TX1 k).2.1 (TX1 k).2.2.1 = some (cf, kf, fi, f) := by rw [← hrf]; exact hi
  by_cases hfin : (TX1 k).2.2.2 = true
  · unfold u_lay at hlay
    rw [if_pos hfin] at hlay
    have hcf : m.cls = cf := by
      obtain ⟨_, _, c', _, _, _, -, -, hf', -, -, -, hown2, -⟩ := Cond.laysFinal_spec hlay
      have e1 : c' = cf := by have := hi.symm.trans hf'; simp at this; exact this.1.symm
      rw [hrf, hdecl] at hown2
      rw [← e1]; exact Option.some.inj (hown.symm.trans hown2)
    have h6 := u_fits hfc hkC hkind (Or.inr hlay) hi hd hn hfit
    exact W.putFinK hx hb hown (hA _ hl) hi' hst hcf hin2 (by rw [q2]; exact h6) q1 q3 (by rw [hsl]; exact k2_hasslot (q4 k hk)) rfl rfl hdg fin
  · unfold u_lay at hlay
    rw [if_neg hfin] at hlay
    have h6 := u_store hfc hkC hkind hlay hi hd hn hfit
    exact W.putK hx hb (f := f) ⟨hown, hA _ hl, ⟨_, _, _, hi'⟩, hst⟩ (by rw [q2]; exact h6) q1 q3 (by rw [hsl]; exact k2_hasslot (q4 k hk)) rfl rfl hdg fin
/-- a field of an object that is being made -/
theorem rw_X2 {fs : List Value} (hx : p.tables.exec = Jvm.exec) (hb : c.code = cc) (hA : ∀ w ∈ AL, w.before args s = true) (hE : en dC dI dA sz s) (hG : ty_ok (dC, dI) vwCl Γ (TP dA Γ g) sz ((a, .inr (2, fs)) :: X) H) (hS0 : va_S (ty_A sz) H0 H locs) {own : String} {index : Nat} (hown : s.vm.findClass own = some m.cls) (hin2 : meth.name = "<init>") (hdecl : "WeekBank$Gift" = own) (k : Nat) (hk : k < 10) (hl : Cond.fieldLink own index "WeekBank$Gift" (TX2 k).2.1 (TX2 k).2.2.1 ∈ AL) (hrf : (TX2 k).1 = "WeekBank$Gift") {v : Value} {ty : FieldType} (hd : parseFieldDescriptor (TX2 k).2.2.1 = some ty) (hn : narrow ty v = v) (hfit : fits ty v = true) (hlen : k < fs.length)
    (hdg : decode cc pc = .ok (.putfield index, 3)) (kk : ∀ (H1 : Heap) (locs1 : List Loc), ty_ok (dC, dI) vwCl Γ (TP dA Γ g) sz ((a, .inr (2, fs.set k v)) :: X) H1 → va_S (ty_A sz) H0 H1 locs1 → W p l e R s m args below meth c H1 locs1 cells slots Q (F0 m (pc + 3) ls rest)) : W p l e R s m args below meth c H locs cells slots Q (F0 m pc ls (v :: .ref a :: rest)) := by
  have hc : vwCl[2]? = some (RX2, TX2, 10) := rfl
  have hap := va_apart (own := own) hA in_X2 tyX2 tyX2_ok nmX2 hE.1 hc
  obtain ⟨hR, hu, hsa⟩ := hG.2.2.2 _ List.mem_cons_self
  obtain ⟨r, h1, cell, q1, q2, q3, q4⟩ := hR
  have hr : r = (RX2, TX2, 10) := Option.some.inj (h1.symm.trans hc)
  subst hr
  obtain ⟨hS, hfc, kC, hkC, hkind⟩ := hE.1.1 2 _ hc
  obtain ⟨cf, kf, fi, f, hi, hsl⟩ := hS k hk
  have hlay := hA _ (in_X2 _ (u_in_lay hk))
  have hst := (u_facts hfc hkC (u_lays hA in_X2 hk) hi).1
  have fin : ∀ (H' : Heap), H'[a]? = some (cell.setSlot f.slot v) → H'.size = H.size → (∀ q, q ≠ a → H'[q]? = H[q]?) → W p l e R s m args below meth c H' (locs ++ [⟨a, f.slot⟩]) cells slots Q (F0 m (pc + 3) ls rest) := fun H' e1 e2 e3 => by
    rw [hsl] at e1 ⊢
    exact kk H' _ (ty_rset hG e2 e3 ⟨_, hc, t_OB.to (V := updV (vp_V fs) k v) ⟨_, e1, q2, q3, t_set q4 hap hk v⟩ (fun j _ => vp_updV_set hlen v j)⟩) (ty_put_S hS0 e2 e3 hsa)
  have hi' : s.fieldFound? "WeekBank$Gift" (TX2 k).2.1 (TX2 k).2.2.1 = some (cf, kf, fi, f) := by rw [← hrf]; exact hi
  by_cases hfin : (TX2 k).2.2.2 = true
  · unfold u_lay at hlay
    rw [if_pos hfin] at hlay
    have hcf : m.cls = cf := by
      obtain ⟨_, _, c', _, _, _, -, -, hf', -, -, -, hown2, -⟩ := Cond.laysFinal_spec hlay
      have e1 : c' = cf := by have := hi.symm.trans hf'; simp at this; exact this.1.symm
      rw [hrf, hdecl] at hown2
      rw [← e1]; exact Option.some.inj (hown.symm.trans hown2)
    have h6 := u_fits hfc hkC hkind (Or.inr hlay) hi hd hn hfit
    exact W.putFinK hx hb hown (hA _ hl) hi' hst hcf hin2 (by rw [q2]; exact h6) q1 q3 (by rw [hsl]; exact k2_hasslot (q4 k hk)) rfl rfl hdg fin
  · unfold u_lay at hlay
    rw [if_neg hfin] at hlay
    have h6 := u_store hfc hkC hkind hlay hi hd hn hfit
    exact W.putK hx hb (f := f) ⟨hown, hA _ hl, ⟨_, _, _, hi'⟩, hst⟩ (by rw [q2]; exact h6) q1 q3 (by rw [hsl]; exact k2_hasslot (q4 k hk)) rfl rfl hdg fin
/-- a field of an object that is being made -/
theorem rw_X3 {fs : List Value} (hx : p.tables.exec = Jvm.exec) (hb : c.code = cc) (hA : ∀ w ∈ AL, w.before args s = true) (hE : en dC dI dA sz s) (hG : ty_ok (dC, dI) vwCl Γ (TP dA Γ g) sz ((a, .inr (3, fs)) :: X) H) (hS0 : va_S (ty_A sz) H0 H locs) {own : String} {index : Nat} (hown : s.vm.findClass own = some m.cls) (hin2 : meth.name = "<init>") (hdecl : "WeekBank$Owner" = own) (k : Nat) (hk : k < 8) (hl : Cond.fieldLink own index "WeekBank$Owner" (TX3 k).2.1 (TX3 k).2.2.1 ∈ AL) (hrf : (TX3 k).1 = "WeekBank$Owner") {v : Value} {ty : FieldType} (hd : parseFieldDescriptor (TX3 k).2.2.1 = some ty) (hn : narrow ty v = v) (hfit : fits ty v = true) (hlen : k < fs.length)
    (hdg : decode cc pc = .ok (.putfield index, 3)) (kk : ∀ (H1 : Heap) (locs1 : List Loc), ty_ok (dC, dI) vwCl Γ (TP dA Γ g) sz ((a, .inr (3, fs.set k v)) :: X) H1 → va_S (ty_A sz) H0 H1 locs1 → W p l e R s m args below meth c H1 locs1 cells slots Q (F0 m (pc + 3) ls rest)) : W p l e R s m args below meth c H locs cells slots Q (F0 m pc ls (v :: .ref a :: rest)) := by
  have hc : vwCl[3]? = some (RX3, TX3, 8) := rfl
  have hap := va_apart (own := own) hA in_X3 tyX3 tyX3_ok nmX3 hE.1 hc
  obtain ⟨hR, hu, hsa⟩ := hG.2.2.2 _ List.mem_cons_self
  obtain ⟨r, h1, cell, q1, q2, q3, q4⟩ := hR
  have hr : r = (RX3, TX3, 8) := Option.some.inj (h1.symm.trans hc)
  subst hr
  obtain ⟨hS, hfc, kC, hkC, hkind⟩ := hE.1.1 3 _ hc
  obtain ⟨cf, kf, fi, f, hi, hsl⟩ := hS k hk
  have hlay := hA _ (in_X3 _ (u_in_lay hk))
  have hst := (u_facts hfc hkC (u_lays hA in_X3 hk) hi).1
  have fin : ∀ (H' : Heap), H'[a]? = some (cell.setSlot f.slot v) → H'.size = H.size → (∀ q, q ≠ a → H'[q]? = H[q]?) → W p l e R s m args below meth c H' (locs ++ [⟨a, f.slot⟩]) cells slots Q (F0 m (pc + 3) ls rest) := fun H' e1 e2 e3 => by
    rw [hsl] at e1 ⊢
    exact kk H' _ (ty_rset hG e2 e3 ⟨_, hc, t_OB.to (V := updV (vp_V fs) k v) ⟨_, e1, q2, q3, t_set q4 hap hk v⟩ (fun j _ => vp_updV_set hlen v j)⟩) (ty_put_S hS0 e2 e3 hsa)
  have hi' : s.fieldFound? "WeekBank$Owner" (TX3 k).2.1 (TX3 k).2.2.1 = some (cf, kf, fi, f) := by rw [← hrf]; exact hi
  by_cases hfin : (TX3 k).2.2.2 = true
  · unfold u_lay at hlay
    rw [if_pos hfin] at hlay
    have hcf : m.cls = cf := by
      obtain ⟨_, _, c', _, _, _, -, -, hf', -, -, -, hown2, -⟩ := Cond.laysFinal_spec hlay
      have e1 : c' = cf := by have := hi.symm.trans hf'; simp at this; exact this.1.symm
      rw [hrf, hdecl] at hown2
      rw [← e1]; exact Option.some.inj (hown.symm.trans hown2)
    have h6 := u_fits hfc hkC hkind (Or.inr hlay) hi hd hn hfit
    exact W.putFinK hx hb hown (hA _ hl) hi' hst hcf hin2 (by rw [q2]; exact h6) q1 q3 (by rw [hsl]; exact k2_hasslot (q4 k hk)) rfl rfl hdg fin
  · unfold u_lay at hlay
    rw [if_neg hfin] at hlay
    have h6 := u_store hfc hkC hkind hlay hi hd hn hfit
    exact W.putK hx hb (f := f) ⟨hown, hA _ hl, ⟨_, _, _, hi'⟩, hst⟩ (by rw [q2]; exact h6) q1 q3 (by rw [hsl]; exact k2_hasslot (q4 k hk)) rfl rfl hdg fin
/-- a field of an object that is being made -/
theorem rw_X4 {fs : List Value} (hx : p.tables.exec = Jvm.exec) (hb : c.code = cc) (hA : ∀ w ∈ AL, w.before args s = true) (hE : en dC dI dA sz s) (hG : ty_ok (dC, dI) vwCl Γ (TP dA Γ g) sz ((a, .inr (4, fs)) :: X) H) (hS0 : va_S (ty_A sz) H0 H locs) {own : String} {index : Nat} (hown : s.vm.findClass own = some m.cls) (hin2 : meth.name = "<init>") (hdecl : "WeekBank$Reader" = own) (k : Nat) (hk : k < 8) (hl : Cond.fieldLink own index "WeekBank$Reader" (TX4 k).2.1 (TX4 k).2.2.1 ∈ AL) (hrf : (TX4 k).1 = "WeekBank$Reader") {v : Value} {ty : FieldType} (hd : parseFieldDescriptor (TX4 k).2.2.1 = some ty) (hn : narrow ty v = v) (hfit : fits ty v = true) (hlen : k < fs.length)
    (hdg : decode cc pc = .ok (.putfield index, 3)) (kk : ∀ (H1 : Heap) (locs1 : List Loc), ty_ok (dC, dI) vwCl Γ (TP dA Γ g) sz ((a, .inr (4, fs.set k v)) :: X) H1 → va_S (ty_A sz) H0 H1 locs1 → W p l e R s m args below meth c H1 locs1 cells slots Q (F0 m (pc + 3) ls rest)) : W p l e R s m args below meth c H locs cells slots Q (F0 m pc ls (v :: .ref a :: rest)) := by
  have hc : vwCl[4]? = some (RX4, TX4, 8) := rfl
  have hap := va_apart (own := own) hA in_X4 tyX4 tyX4_ok nmX4 hE.1 hc
  obtain ⟨hR, hu, hsa⟩ := hG.2.2.2 _ List.mem_cons_self
  obtain ⟨r, h1, cell, q1, q2, q3, q4⟩ := hR
  have hr : r = (RX4, TX4, 8) := Option.some.inj (h1.symm.trans hc)
  subst hr
  obtain ⟨hS, hfc, kC, hkC, hkind⟩ := hE.1.1 4 _ hc
  obtain ⟨cf, kf, fi, f, hi, hsl⟩ := hS k hk
  have hlay := hA _ (in_X4 _ (u_in_lay hk))
  have hst := (u_facts hfc hkC (u_lays hA in_X4 hk) hi).1
  have fin : ∀ (H' : Heap), H'[a]? = some (cell.setSlot f.slot v) → H'.size = H.size → (∀ q, q ≠ a → H'[q]? = H[q]?) → W p l e R s m args below meth c H' (locs ++ [⟨a, f.slot⟩]) cells slots Q (F0 m (pc + 3) ls rest) := fun H' e1 e2 e3 => by
    rw [hsl] at e1 ⊢
    exact kk H' _ (ty_rset hG e2 e3 ⟨_, hc, t_OB.to (V := updV (vp_V fs) k v) ⟨_, e1, q2, q3, t_set q4 hap hk v⟩ (fun j _ => vp_updV_set hlen v j)⟩) (ty_put_S hS0 e2 e3 hsa)
  have hi' : s.fieldFound? "WeekBank$Reader" (TX4 k).2.1 (TX4 k).2.2.1 = some (cf, kf, fi, f) := by rw [← hrf]; exact hi
  by_cases hfin : (TX4 k).2.2.2 = true
  · unfold u_lay at hlay
    rw [if_pos hfin] at hlay
    have hcf : m.cls = cf := by
      obtain ⟨_, _, c', _, _, _, -, -, hf', -, -, -, hown2, -⟩ := Cond.laysFinal_spec hlay
      have e1 : c' = cf := by have := hi.symm.trans hf'; simp at this; exact this.1.symm
      rw [hrf, hdecl] at hown2
      rw [← e1]; exact Option.some.inj (hown.symm.trans hown2)
    have h6 := u_fits hfc hkC hkind (Or.inr hlay) hi hd hn hfit
    exact W.putFinK hx hb hown (hA _ hl) hi' hst hcf hin2 (by rw [q2]; exact h6) q1 q3 (by rw [hsl]; exact k2_hasslot (q4 k hk)) rfl rfl hdg fin
  · unfold u_lay at hlay
    rw [if_neg hfin] at hlay
    have h6 := u_store hfc hkC hkind hlay hi hd hn hfit
    exact W.putK hx hb (f := f) ⟨hown, hA _ hl, ⟨_, _, _, hi'⟩, hst⟩ (by rw [q2]; exact h6) q1 q3 (by rw [hsl]; exact k2_hasslot (q4 k hk)) rfl rfl hdg fin
/-- a field of an object that is being made -/
theorem rw_X5 {fs : List Value} (hx : p.tables.exec = Jvm.exec) (hb : c.code = cc) (hA : ∀ w ∈ AL, w.before args s = true) (hE : en dC dI dA sz s) (hG : ty_ok (dC, dI) vwCl Γ (TP dA Γ g) sz ((a, .inr (5, fs)) :: X) H) (hS0 : va_S (ty_A sz) H0 H locs) {own : String} {index : Nat} (hown : s.vm.findClass own = some m.cls) (hin2 : meth.name = "<init>") (hdecl : "WeekBank$RingSearch" = own) (k : Nat) (hk : k < 7) (hl : Cond.fieldLink own index "WeekBank$RingSearch" (TX5 k).2.1 (TX5 k).2.2.1 ∈ AL) (hrf : (TX5 k).1 = "WeekBank$RingSearch") {v : Value} {ty : FieldType} (hd : parseFieldDescriptor (TX5 k).2.2.1 = some ty) (hn : narrow ty v = v) (hfit : fits ty v = true) (hlen : k < fs.length)
    (hdg : decode cc pc = .ok (.putfield index, 3)) (kk : ∀ (H1 : Heap) (locs1 : List Loc), ty_ok (dC, dI) vwCl Γ (TP dA Γ g) sz ((a, .inr (5, fs.set k v)) :: X) H1 → va_S (ty_A sz) H0 H1 locs1 → W p l e R s m args below meth c H1 locs1 cells slots Q (F0 m (pc + 3) ls rest)) : W p l e R s m args below meth c H locs cells slots Q (F0 m pc ls (v :: .ref a :: rest)) := by
  have hc : vwCl[5]? = some (RX5, TX5, 7) := rfl
  have hap := va_apart (own := own) hA in_X5 tyX5 tyX5_ok nmX5 hE.1 hc
  obtain ⟨hR, hu, hsa⟩ := hG.2.2.2 _ List.mem_cons_self
  obtain ⟨r, h1, cell, q1, q2, q3, q4⟩ := hR
  have hr : r = (RX5, TX5, 7) := Option.some.inj (h1.symm.trans hc)
  subst hr
  obtain ⟨hS, hfc, kC, hkC, hkind⟩ := hE.1.1 5 _ hc
  obtain ⟨cf, kf, fi, f, hi, hsl⟩ := hS k hk
  have hlay := hA _ (in_X5 _ (u_in_lay hk))
  have hst := (u_facts hfc hkC (u_lays hA in_X5 hk) hi).1
  have fin : ∀ (H' : Heap), H'[a]? = some (cell.setSlot f.slot v) → H'.size = H.size → (∀ q, q ≠ a → H'[q]? = H[q]?) → W p l e R s m args below meth c H' (locs ++ [⟨a, f.slot⟩]) cells slots Q (F0 m (pc + 3) ls rest) := fun H' e1 e2 e3 => by
    rw [hsl] at e1 ⊢
    exact kk H' _ (ty_rset hG e2 e3 ⟨_, hc, t_OB.to (V := updV (vp_V fs) k v) ⟨_, e1, q2, q3, t_set q4 hap hk v⟩ (fun j _ => vp_updV_set hlen v j)⟩) (ty_put_S hS0 e2 e3 hsa)
  have hi' : s.fieldFound? "WeekBank$RingSearch" (TX5 k).2.1 (TX5 k).2.2.1 = some (cf, kf, fi, f) := by rw [← hrf]; exact hi
  by_cases hfin : (TX5 k).2.2.2 = true
  · unfold u_lay at hlay
    rw [if_pos hfin] at hlay
    have hcf : m.cls = cf := by
      obtain ⟨_, _, c', _, _, _, -, -, hf', -, -, -, hown2, -⟩ := Cond.laysFinal_spec hlay
      have e1 : c' = cf := by have := hi.symm.trans hf'; simp at this; exact this.1.symm
      rw [hrf, hdecl] at hown2
      rw [← e1]; exact Option.some.inj (hown.symm.trans hown2)
    have h6 := u_fits hfc hkC hkind (Or.inr hlay) hi hd hn hfit
    exact W.putFinK hx hb hown (hA _ hl) hi' hst hcf hin2 (by rw [q2]; exact h6) q1 q3 (by rw [hsl]; exact k2_hasslot (q4 k hk)) rfl rfl hdg fin
  · unfold u_lay at hlay
    rw [if_neg hfin] at hlay
    have h6 := u_store hfc hkC hkind hlay hi hd hn hfit
    exact W.putK hx hb (f := f) ⟨hown, hA _ hl, ⟨_, _, _, hi'⟩, hst⟩ (by rw [q2]; exact h6) q1 q3 (by rw [hsl]; exact k2_hasslot (q4 k hk)) rfl rfl hdg fin
/-- a field of an object that is being made -/
theorem rw_X6 {fs : List Value} (hx : p.tables.exec = Jvm.exec) (hb : c.code = cc) (hA : ∀ w ∈ AL, w.before args s = true) (hE : en dC dI dA sz s) (hG : ty_ok (dC, dI) vwCl Γ (TP dA Γ g) sz ((a, .inr (6, fs)) :: X) H) (hS0 : va_S (ty_A sz) H0 H locs) {own : String} {index : Nat} (hown : s.vm.findClass own = some m.cls) (hin2 : meth.name = "<init>") (hdecl : "WeekBank$Rules" = own) (k : Nat) (hk : k < 5) (hl : Cond.fieldLink own index "WeekBank$Rules" (TX6 k).2.1 (TX6 k).2.2.1 ∈ AL) (hrf : (TX6 k).1 = "WeekBank$Rules") {v : Value} {ty : FieldType} (hd : parseFieldDescriptor (TX6 k).2.2.1 = some ty) (hn : narrow ty v = v) (hfit : fits ty v = true) (hlen : k < fs.length)
    (hdg : decode cc pc = .ok (.putfield index, 3)) (kk : ∀ (H1 : Heap) (locs1 : List Loc), ty_ok (dC, dI) vwCl Γ (TP dA Γ g) sz ((a, .inr (6, fs.set k v)) :: X) H1 → va_S (ty_A sz) H0 H1 locs1 → W p l e R s m args below meth c H1 locs1 cells slots Q (F0 m (pc + 3) ls rest)) : W p l e R s m args below meth c H locs cells slots Q (F0 m pc ls (v :: .ref a :: rest)) := by
  have hc : vwCl[6]? = some (RX6, TX6, 5) := rfl
  have hap := va_apart (own := own) hA in_X6 tyX6 tyX6_ok nmX6 hE.1 hc
  obtain ⟨hR, hu, hsa⟩ := hG.2.2.2 _ List.mem_cons_self
  obtain ⟨r, h1, cell, q1, q2, q3, q4⟩ := hR
  have hr : r = (RX6, TX6, 5) := Option.some.inj (h1.symm.trans hc)
  subst hr
  obtain ⟨hS, hfc, kC, hkC, hkind⟩ := hE.1.1 6 _ hc
  obtain ⟨cf, kf, fi, f, hi, hsl⟩ := hS k hk
  have hlay := hA _ (in_X6 _ (u_in_lay hk))
  have hst := (u_facts hfc hkC (u_lays hA in_X6 hk) hi).1
  have fin : ∀ (H' : Heap), H'[a]? = some (cell.setSlot f.slot v) → H'.size = H.size → (∀ q, q ≠ a → H'[q]? = H[q]?) → W p l e R s m args below meth c H' (locs ++ [⟨a, f.slot⟩]) cells slots Q (F0 m (pc + 3) ls rest) := fun H' e1 e2 e3 => by
    rw [hsl] at e1 ⊢
    exact kk H' _ (ty_rset hG e2 e3 ⟨_, hc, t_OB.to (V := updV (vp_V fs) k v) ⟨_, e1, q2, q3, t_set q4 hap hk v⟩ (fun j _ => vp_updV_set hlen v j)⟩) (ty_put_S hS0 e2 e3 hsa)
  have hi' : s.fieldFound? "WeekBank$Rules" (TX6 k).2.1 (TX6 k).2.2.1 = some (cf, kf, fi, f) := by rw [← hrf]; exact hi
  by_cases hfin : (TX6 k).2.2.2 = true
  · unfold u_lay at hlay
    rw [if_pos hfin] at hlay
    have hcf : m.cls = cf := by
      obtain ⟨_, _, c', _, _, _, -, -, hf', -, -, -, hown2, -⟩ := Cond.laysFinal_spec hlay
      have e1 : c' = cf := by have := hi.symm.trans hf'; simp at this; exact this.1.symm
      rw [hrf, hdecl] at hown2
      rw [← e1]; exact Option.some.inj (hown.symm.trans hown2)
    have h6 := u_fits hfc hkC hkind (Or.inr hlay) hi hd hn hfit
    exact W.putFinK hx hb hown (hA _ hl) hi' hst hcf hin2 (by rw [q2]; exact h6) q1 q3 (by rw [hsl]; exact k2_hasslot (q4 k hk)) rfl rfl hdg fin
  · unfold u_lay at hlay
    rw [if_neg hfin] at hlay
    have h6 := u_store hfc hkC hkind hlay hi hd hn hfit
    exact W.putK hx hb (f := f) ⟨hown, hA _ hl, ⟨_, _, _, hi'⟩, hst⟩ (by rw [q2]; exact h6) q1 q3 (by rw [hsl]; exact k2_hasslot (q4 k hk)) rfl rfl hdg fin
/-- a field of an object that is being made -/
theorem rw_X7 {fs : List Value} (hx : p.tables.exec = Jvm.exec) (hb : c.code = cc) (hA : ∀ w ∈ AL, w.before args s = true) (hE : en dC dI dA sz s) (hG : ty_ok (dC, dI) vwCl Γ (TP dA Γ g) sz ((a, .inr (7, fs)) :: X) H) (hS0 : va_S (ty_A sz) H0 H locs) {own : String} {index : Nat} (hown : s.vm.findClass own = some m.cls) (hin2 : meth.name = "<init>") (hdecl : "WeekBank$Wish" = own) (k : Nat) (hk : k < 4) (hl : Cond.fieldLink own index "WeekBank$Wish" (TX7 k).2.1 (TX7 k).2.2.1 ∈ AL) (hrf : (TX7 k).1 = "WeekBank$Wish") {v : Value} {ty : FieldType} (hd : parseFieldDescriptor (TX7 k).2.2.1 = some ty) (hn : narrow ty v = v) (hfit : fits ty v = true) (hlen : k < fs.length)
    (hdg : decode cc pc = .ok (.putfield index, 3)) (kk : ∀ (H1 : Heap) (locs1 : List Loc), ty_ok (dC, dI) vwCl Γ (TP dA Γ g) sz ((a, .inr (7, fs.set k v)) :: X) H1 → va_S (ty_A sz) H0 H1 locs1 → W p l e R s m args below meth c H1 locs1 cells slots Q (F0 m (pc + 3) ls rest)) : W p l e R s m args below meth c H locs cells slots Q (F0 m pc ls (v :: .ref a :: rest)) := by
  have hc : vwCl[7]? = some (RX7, TX7, 4) := rfl
  have hap := va_apart (own := own) hA in_X7 tyX7 tyX7_ok nmX7 hE.1 hc
  obtain ⟨hR, hu, hsa⟩ := hG.2.2.2 _ List.mem_cons_self
  obtain ⟨r, h1, cell, q1, q2, q3, q4⟩ := hR
  have hr : r = (RX7, TX7, 4) := Option.some.inj (h1.symm.trans hc)
  subst hr
  obtain ⟨hS, hfc, kC, hkC, hkind⟩ := hE.1.1 7 _ hc
  obtain ⟨cf, kf, fi, f, hi, hsl⟩ := hS k hk
  have hlay := hA _ (in_X7 _ (u_in_lay hk))
  have hst := (u_facts hfc hkC (u_lays hA in_X7 hk) hi).1
  have fin : ∀ (H' : Heap), H'[a]? = some (cell.setSlot f.slot v) → H'.size = H.size → (∀ q, q ≠ a → H'[q]? = H[q]?) → W p l e R s m args below meth c H' (locs ++ [⟨a, f.slot⟩]) cells slots Q (F0 m (pc + 3) ls rest) := fun H' e1 e2 e3 => by
    rw [hsl] at e1 ⊢
    exact kk H' _ (ty_rset hG e2 e3 ⟨_, hc, t_OB.to (V := updV (vp_V fs) k v) ⟨_, e1, q2, q3, t_set q4 hap hk v⟩ (fun j _ => vp_updV_set hlen v j)⟩) (ty_put_S hS0 e2 e3 hsa)
  have hi' : s.fieldFound? "WeekBank$Wish" (TX7 k).2.1 (TX7 k).2.2.1 = some (cf, kf, fi, f) := by rw [← hrf]; exact hi
  by_cases hfin : (TX7 k).2.2.2 = true
  · unfold u_lay at hlay
    rw [if_pos hfin] at hlay
    have hcf : m.cls = cf := by
      obtain ⟨_, _, c', _, _, _, -, -, hf', -, -, -, hown2, -⟩ := Cond.laysFinal_spec hlay
      have e1 : c' = cf := by have := hi.symm.trans hf'; simp at this; exact this.1.symm
      rw [hrf, hdecl] at hown2
      rw [← e1]; exact Option.some.inj (hown.symm.trans hown2)
    have h6 := u_fits hfc hkC hkind (Or.inr hlay) hi hd hn hfit
    exact W.putFinK hx hb hown (hA _ hl) hi' hst hcf hin2 (by rw [q2]; exact h6) q1 q3 (by rw [hsl]; exact k2_hasslot (q4 k hk)) rfl rfl hdg fin
  · unfold u_lay at hlay
    rw [if_neg hfin] at hlay
    have h6 := u_store hfc hkC hkind hlay hi hd hn hfit
    exact W.putK hx hb (f := f) ⟨hown, hA _ hl, ⟨_, _, _, hi'⟩, hst⟩ (by rw [q2]; exact h6) q1 q3 (by rw [hsl]; exact k2_hasslot (q4 k hk)) rfl rfl hdg fin
/-- a field of an object that is being made -/
theorem rw_X8 {fs : List Value} (hx : p.tables.exec = Jvm.exec) (hb : c.code = cc) (hA : ∀ w ∈ AL, w.before args s = true) (hE : en dC dI dA sz s) (hG : ty_ok (dC, dI) vwCl Γ (TP dA Γ g) sz ((a, .inr (8, fs)) :: X) H) (hS0 : va_S (ty_A sz) H0 H locs) {own : String} {index : Nat} (hown : s.vm.findClass own = some m.cls) (hin2 : meth.name = "<init>") (hdecl : "WeekBank" = own) (k : Nat) (hk : k < 13) (hl : Cond.fieldLink own index "WeekBank" (TX8 k).2.1 (TX8 k).2.2.1 ∈ AL) (hrf : (TX8 k).1 = "WeekBank") {v : Value} {ty : FieldType} (hd : parseFieldDescriptor (TX8 k).2.2.1 = some ty) (hn : narrow ty v = v) (hfit : fits ty v = true) (hlen : k < fs.length)
    (hdg : decode cc pc = .ok (.putfield index, 3)) (kk : ∀ (H1 : Heap) (locs1 : List Loc), ty_ok (dC, dI) vwCl Γ (TP dA Γ g) sz ((a, .inr (8, fs.set k v)) :: X) H1 → va_S (ty_A sz) H0 H1 locs1 → W p l e R s m args below meth c H1 locs1 cells slots Q (F0 m (pc + 3) ls rest)) : W p l e R s m args below meth c H locs cells slots Q (F0 m pc ls (v :: .ref a :: rest)) := by
  have hc : vwCl[8]? = some (RX8, TX8, 13) := rfl
  have hap := va_apart (own := own) hA in_X8 tyX8 tyX8_ok nmX8 hE.1 hc
  obtain ⟨hR, hu, hsa⟩ := hG.2.2.2 _ List.mem_cons_self
  obtain ⟨r, h1, cell, q1, q2, q3, q4⟩ := hR
  have hr : r = (RX8, TX8, 13) := Option.some.inj (h1.symm.trans hc)
  subst hr
  obtain ⟨hS, hfc, kC, hkC, hkind⟩ := hE.1.1 8 _ hc
  obtain ⟨cf, kf, fi, f, hi, hsl⟩ := hS k hk
  have hlay := hA _ (in_X8 _ (u_in_lay hk))
  have hst := (u_facts hfc hkC (u_lays hA in_X8 hk) hi).1
  have fin : ∀ (H' : Heap), H'[a]? = some (cell.setSlot f.slot v) → H'.size = H.size → (∀ q, q ≠ a → H'[q]? = H[q]?) → W p l e R s m args below meth c H' (locs ++ [⟨a, f.slot⟩]) cells slots Q (F0 m (pc + 3) ls rest) := fun H' e1 e2 e3 => by
    rw [hsl] at e1 ⊢
    exact kk H' _ (ty_rset hG e2 e3 ⟨_, hc, t_OB.to (V := updV (vp_V fs) k v) ⟨_, e1, q2, q3, t_set q4 hap hk v⟩ (fun j _ => vp_updV_set hlen v j)⟩) (ty_put_S hS0 e2 e3 hsa)
  have hi' : s.fieldFound? "WeekBank" (TX8 k).2.1 (TX8 k).2.2.1 = some (cf, kf, fi, f) := by rw [← hrf]; exact hi
  by_cases hfin : (TX8 k).2.2.2 = true
  · unfold u_lay at hlay
    rw [if_pos hfin] at hlay
    have hcf : m.cls = cf := by
      obtain ⟨_, _, c', _, _, _, -, -, hf', -, -, -, hown2, -⟩ := Cond.laysFinal_spec hlay
      have e1 : c' = cf := by have := hi.symm.trans hf'; simp at this; exact this.1.symm
      rw [hrf, hdecl] at hown2
      rw [← e1]; exact Option.some.inj (hown.symm.trans hown2)
    have h6 := u_fits hfc hkC hkind (Or.inr hlay) hi hd hn hfit
    exact W.putFinK hx hb hown (hA _ hl) hi' hst hcf hin2 (by rw [q2]; exact h6) q1 q3 (by rw [hsl]; exact k2_hasslot (q4 k hk)) rfl rfl hdg fin
  · unfold u_lay at hlay
    rw [if_neg hfin] at hlay
    have h6 := u_store hfc hkC hkind hlay hi hd hn hfit
    exact W.putK hx hb (f := f) ⟨hown, hA _ hl, ⟨_, _, _, hi'⟩, hst⟩ (by rw [q2]; exact h6) q1 q3 (by rw [hsl]; exact k2_hasslot (q4 k hk)) rfl rfl hdg fin
/-- a field of an object that is being made -/
theorem rw_X9 {fs : List Value} (hx : p.tables.exec = Jvm.exec) (hb : c.code = cc) (hA : ∀ w ∈ AL, w.before args s = true) (hE : en dC dI dA sz s) (hG : ty_ok (dC, dI) vwCl Γ (TP dA Γ g) sz ((a, .inr (9, fs)) :: X) H) (hS0 : va_S (ty_A sz) H0 H locs) {own : String} {index : Nat} (hown : s.vm.findClass own = some m.cls) (hin2 : meth.name = "<init>") (hdecl : "WeekBankModel" = own) (k : Nat) (hk : k < 47) (hl : Cond.fieldLink own index "WeekBankModel" (TX9 k).2.1 (TX9 k).2.2.1 ∈ AL) (hrf : (TX9 k).1 = "WeekBankModel") {v : Value} {ty : FieldType} (hd : parseFieldDescriptor (TX9 k).2.2.1 = some ty) (hn : narrow ty v = v) (hfit : fits ty v = true) (hlen : k < fs.length)
    (hdg : decode cc pc = .ok (.putfield index, 3)) (kk : ∀ (H1 : Heap) (locs1 : List Loc), ty_ok (dC, dI) vwCl Γ (TP dA Γ g) sz ((a, .inr (9, fs.set k v)) :: X) H1 → va_S (ty_A sz) H0 H1 locs1 → W p l e R s m args below meth c H1 locs1 cells slots Q (F0 m (pc + 3) ls rest)) : W p l e R s m args below meth c H locs cells slots Q (F0 m pc ls (v :: .ref a :: rest)) := by
  have hc : vwCl[9]? = some (RX9, TX9, 47) := rfl
  have hap := va_apart (own := own) hA in_X9 tyX9 tyX9_ok nmX9 hE.1 hc
  obtain ⟨hR, hu, hsa⟩ := hG.2.2.2 _ List.mem_cons_self
  obtain ⟨r, h1, cell, q1, q2, q3, q4⟩ := hR
  have hr : r = (RX9, TX9, 47) := Option.some.inj (h1.symm.trans hc)
  subst hr
  obtain ⟨hS, hfc, kC, hkC, hkind⟩ := hE.1.1 9 _ hc
  obtain ⟨cf, kf, fi, f, hi, hsl⟩ := hS k hk
  have hlay := hA _ (in_X9 _ (u_in_lay hk))
  have hst := (u_facts hfc hkC (u_lays hA in_X9 hk) hi).1
  have fin : ∀ (H' : Heap), H'[a]? = some (cell.setSlot f.slot v) → H'.size = H.size → (∀ q, q ≠ a → H'[q]? = H[q]?) → W p l e R s m args below meth c H' (locs ++ [⟨a, f.slot⟩]) cells slots Q (F0 m (pc + 3) ls rest) := fun H' e1 e2 e3 => by
    rw [hsl] at e1 ⊢
    exact kk H' _ (ty_rset hG e2 e3 ⟨_, hc, t_OB.to (V := updV (vp_V fs) k v) ⟨_, e1, q2, q3, t_set q4 hap hk v⟩ (fun j _ => vp_updV_set hlen v j)⟩) (ty_put_S hS0 e2 e3 hsa)
  have hi' : s.fieldFound? "WeekBankModel" (TX9 k).2.1 (TX9 k).2.2.1 = some (cf, kf, fi, f) := by rw [← hrf]; exact hi
  by_cases hfin : (TX9 k).2.2.2 = true
  · unfold u_lay at hlay
    rw [if_pos hfin] at hlay
    have hcf : m.cls = cf := by
      obtain ⟨_, _, c', _, _, _, -, -, hf', -, -, -, hown2, -⟩ := Cond.laysFinal_spec hlay
      have e1 : c' = cf := by have := hi.symm.trans hf'; simp at this; exact this.1.symm
      rw [hrf, hdecl] at hown2
      rw [← e1]; exact Option.some.inj (hown.symm.trans hown2)
    have h6 := u_fits hfc hkC hkind (Or.inr hlay) hi hd hn hfit
    exact W.putFinK hx hb hown (hA _ hl) hi' hst hcf hin2 (by rw [q2]; exact h6) q1 q3 (by rw [hsl]; exact k2_hasslot (q4 k hk)) rfl rfl hdg fin
  · unfold u_lay at hlay
    rw [if_neg hfin] at hlay
    have h6 := u_store hfc hkC hkind hlay hi hd hn hfit
    exact W.putK hx hb (f := f) ⟨hown, hA _ hl, ⟨_, _, _, hi'⟩, hst⟩ (by rw [q2]; exact h6) q1 q3 (by rw [hsl]; exact k2_hasslot (q4 k hk)) rfl rfl hdg fin
theorem rg_X0 {fs : List Value} (hx : p.tables.exec = Jvm.exec) (hb : c.code = cc) (hA : ∀ w ∈ AL, w.before args s = true) (hE : en dC dI dA sz s) (hG : ty_ok (dC, dI) vwCl Γ (TP dA Γ g) sz ((a, .inr (0, fs)) :: X) H) {own : String} {index : Nat} (hown : s.vm.findClass own = some m.cls) (k : Nat) (hk : k < 6) (hl : Cond.fieldLink own index "WeekBank$FeeRounds" (TX0 k).2.1 (TX0 k).2.2.1 ∈ AL) (hrf : (TX0 k).1 = "WeekBank$FeeRounds") (v : Value) (hv : fs[k]? = some v) (hdg : decode cc pc = .ok (.getfield index, 3)) (kk : W p l e R s m args below meth c H locs cells slots Q (F0 m (pc + 3) ls (v :: rest))) : W p l e R s m args below meth c H locs cells slots Q (F0 m pc ls (.ref a :: rest)) :=
  va_get (C := RX0) (T := TX0) (N := 6) (ci := 0) hx hb hA in_X0 hown hE.1 (ty_one (hG.2.2.2 _ List.mem_cons_self).1) 0 rfl rfl k hk (hA _ hl) (fun x h => by rw [← hrf]; exact h) hv hdg kk
theorem rg_X1 {fs : List Value} (hx : p.tables.exec = Jvm.exec) (hb : c.code = cc) (hA : ∀ w ∈ AL, w.before args s = true) (hE : en dC dI dA sz s) (hG : ty_ok (dC, dI) vwCl Γ (TP dA Γ g) sz ((a, .inr (1, fs)) :: X) H) {own : String} {index : Nat} (hown : s.vm.findClass own = some m.cls) (k : Nat) (hk : k < 6) (hl : Cond.fieldLink own index "WeekBank$Flat" (TX1 k).2.1 (TX1 k).2.2.1 ∈ AL) (hrf : (TX1 k).1 = "WeekBank$Flat") (v : Value) (hv : fs[k]? = some v) (hdg : decode cc pc = .ok (.getfield index, 3)) (kk : W p l e R s m args below meth c H locs cells slots Q (F0 m (pc + 3) ls (v :: rest))) : W p l e R s m args below meth c H locs cells slots Q (F0 m pc ls (.ref a :: rest)) :=
  va_get (C := RX1) (T := TX1) (N := 6) (ci := 1) hx hb hA in_X1 hown hE.1 (ty_one (hG.2.2.2 _ List.mem_cons_self).1) 0 rfl rfl k hk (hA _ hl) (fun x h => by rw [← hrf]; exact h) hv hdg kk
theorem rg_X2 {fs : List Value} (hx : p.tables.exec = Jvm.exec) (hb : c.code = cc) (hA : ∀ w ∈ AL, w.before args s = true) (hE : en dC dI dA sz s) (hG : ty_ok (dC, dI) vwCl Γ (TP dA Γ g) sz ((a, .inr (2, fs)) :: X) H) {own : String} {index : Nat} (hown : s.vm.findClass own = some m.cls) (k : Nat) (hk : k < 10) (hl : Cond.fieldLink own index "WeekBank$Gift" (TX2 k).2.1 (TX2 k).2.2.1 ∈ AL) (hrf : (TX2 k).1 = "WeekBank$Gift") (v : Value) (hv : fs[k]? = some v) (hdg : decode cc pc = .ok (.getfield index, 3)) (kk : W p l e R s m args below meth c H locs cells slots Q (F0 m (pc + 3) ls (v :: rest))) : W p l e R s m args below meth c H locs cells slots Q (F0 m pc ls (.ref a :: rest)) :=
  va_get (C := RX2) (T := TX2) (N := 10) (ci := 2) hx hb hA in_X2 hown hE.1 (ty_one (hG.2.2.2 _ List.mem_cons_self).1) 0 rfl rfl k hk (hA _ hl) (fun x h => by rw [← hrf]; exact h) hv hdg kk
theorem rg_X3 {fs : List Value} (hx : p.tables.exec = Jvm.exec) (hb : c.code = cc) (hA : ∀ w ∈ AL, w.before args s = true) (hE : en dC dI dA sz s) (hG : ty_ok (dC, dI) vwCl Γ (TP dA Γ g) sz ((a, .inr (3, fs)) :: X) H) {own : String} {index : Nat} (hown : s.vm.findClass own = some m.cls) (k : Nat) (hk : k < 8) (hl : Cond.fieldLink own index "WeekBank$Owner" (TX3 k).2.1 (TX3 k).2.2.1 ∈ AL) (hrf : (TX3 k).1 = "WeekBank$Owner") (v : Value) (hv : fs[k]? = some v) (hdg : decode cc pc = .ok (.getfield index, 3)) (kk : W p l e R s m args below meth c H locs cells slots Q (F0 m (pc + 3) ls (v :: rest))) : W p l e R s m args below meth c H locs cells slots Q (F0 m pc ls (.ref a :: rest)) :=
  va_get (C := RX3) (T := TX3) (N := 8) (ci := 3) hx hb hA in_X3 hown hE.1 (ty_one (hG.2.2.2 _ List.mem_cons_self).1) 0 rfl rfl k hk (hA _ hl) (fun x h => by rw [← hrf]; exact h) hv hdg kk
theorem rg_X4 {fs : List Value} (hx : p.tables.exec = Jvm.exec) (hb : c.code = cc) (hA : ∀ w ∈ AL, w.before args s = true) (hE : en dC dI dA sz s) (hG : ty_ok (dC, dI) vwCl Γ (TP dA Γ g) sz ((a, .inr (4, fs)) :: X) H) {own : String} {index : Nat} (hown : s.vm.findClass own = some m.cls) (k : Nat) (hk : k < 8) (hl : Cond.fieldLink own index "WeekBank$Reader" (TX4 k).2.1 (TX4 k).2.2.1 ∈ AL) (hrf : (TX4 k).1 = "WeekBank$Reader") (v : Value) (hv : fs[k]? = some v) (hdg : decode cc pc = .ok (.getfield index, 3)) (kk : W p l e R s m args below meth c H locs cells slots Q (F0 m (pc + 3) ls (v :: rest))) : W p l e R s m args below meth c H locs cells slots Q (F0 m pc ls (.ref a :: rest)) :=
  va_get (C := RX4) (T := TX4) (N := 8) (ci := 4) hx hb hA in_X4 hown hE.1 (ty_one (hG.2.2.2 _ List.mem_cons_self).1) 0 rfl rfl k hk (hA _ hl) (fun x h => by rw [← hrf]; exact h) hv hdg kk
theorem rg_X5 {fs : List Value} (hx : p.tables.exec = Jvm.exec) (hb : c.code = cc) (hA : ∀ w ∈ AL, w.before args s = true) (hE : en dC dI dA sz s) (hG : ty_ok (dC, dI) vwCl Γ (TP dA Γ g) sz ((a, .inr (5, fs)) :: X) H) {own : String} {index : Nat} (hown : s.vm.findClass own = some m.cls) (k : Nat) (hk : k < 7) (hl : Cond.fieldLink own index "WeekBank$RingSearch" (TX5 k).2.1 (TX5 k).2.2.1 ∈ AL) (hrf : (TX5 k).1 = "WeekBank$RingSearch") (v : Value) (hv : fs[k]? = some v) (hdg : decode cc pc = .ok (.getfield index, 3)) (kk : W p l e R s m args below meth c H locs cells slots Q (F0 m (pc + 3) ls (v :: rest))) : W p l e R s m args below meth c H locs cells slots Q (F0 m pc ls (.ref a :: rest)) :=
  va_get (C := RX5) (T := TX5) (N := 7) (ci := 5) hx hb hA in_X5 hown hE.1 (ty_one (hG.2.2.2 _ List.mem_cons_self).1) 0 rfl rfl k hk (hA _ hl) (fun x h => by rw [← hrf]; exact h) hv hdg kk
theorem rg_X6 {fs : List Value} (hx : p.tables.exec = Jvm.exec) (hb : c.code = cc) (hA : ∀ w ∈ AL, w.before args s = true) (hE : en dC dI dA sz s) (hG : ty_ok (dC, dI) vwCl Γ (TP dA Γ g) sz ((a, .inr (6, fs)) :: X) H) {own : String} {index : Nat} (hown : s.vm.findClass own = some m.cls) (k : Nat) (hk : k < 5) (hl : Cond.fieldLink own index "WeekBank$Rules" (TX6 k).2.1 (TX6 k).2.2.1 ∈ AL) (hrf : (TX6 k).1 = "WeekBank$Rules") (v : Value) (hv : fs[k]? = some v) (hdg : decode cc pc = .ok (.getfield index, 3)) (kk : W p l e R s m args below meth c H locs cells slots Q (F0 m (pc + 3) ls (v :: rest))) : W p l e R s m args below meth c H locs cells slots Q (F0 m pc ls (.ref a :: rest)) :=
  va_get (C := RX6) (T := TX6) (N := 5) (ci := 6) hx hb hA in_X6 hown hE.1 (ty_one (hG.2.2.2 _ List.mem_cons_self).1) 0 rfl rfl k hk (hA _ hl) (fun x h => by rw [← hrf]; exact h) hv hdg kk
theorem rg_X7 {fs : List Value} (hx : p.tables.exec = Jvm.exec) (hb : c.code = cc) (hA : ∀ w ∈ AL, w.before args s = true) (hE : en dC dI dA sz s) (hG : ty_ok (dC, dI) vwCl Γ (TP dA Γ g) sz ((a, .inr (7, fs)) :: X) H) {own : String} {index : Nat} (hown : s.vm.findClass own = some m.cls) (k : Nat) (hk : k < 4) (hl : Cond.fieldLink own index "WeekBank$Wish" (TX7 k).2.1 (TX7 k).2.2.1 ∈ AL) (hrf : (TX7 k).1 = "WeekBank$Wish") (v : Value) (hv : fs[k]? = some v) (hdg : decode cc pc = .ok (.getfield index, 3)) (kk : W p l e R s m args below meth c H locs cells slots Q (F0 m (pc + 3) ls (v :: rest))) : W p l e R s m args below meth c H locs cells slots Q (F0 m pc ls (.ref a :: rest)) :=
  va_get (C := RX7) (T := TX7) (N := 4) (ci := 7) hx hb hA in_X7 hown hE.1 (ty_one (hG.2.2.2 _ List.mem_cons_self).1) 0 rfl rfl k hk (hA _ hl) (fun x h => by rw [← hrf]; exact h) hv hdg kk
theorem rg_X8 {fs : List Value} (hx : p.tables.exec = Jvm.exec) (hb : c.code = cc) (hA : ∀ w ∈ AL, w.before args s = true) (hE : en dC dI dA sz s) (hG : ty_ok (dC, dI) vwCl Γ (TP dA Γ g) sz ((a, .inr (8, fs)) :: X) H) {own : String} {index : Nat} (hown : s.vm.findClass own = some m.cls) (k : Nat) (hk : k < 13) (hl : Cond.fieldLink own index "WeekBank" (TX8 k).2.1 (TX8 k).2.2.1 ∈ AL) (hrf : (TX8 k).1 = "WeekBank") (v : Value) (hv : fs[k]? = some v) (hdg : decode cc pc = .ok (.getfield index, 3)) (kk : W p l e R s m args below meth c H locs cells slots Q (F0 m (pc + 3) ls (v :: rest))) : W p l e R s m args below meth c H locs cells slots Q (F0 m pc ls (.ref a :: rest)) :=
  va_get (C := RX8) (T := TX8) (N := 13) (ci := 8) hx hb hA in_X8 hown hE.1 (ty_one (hG.2.2.2 _ List.mem_cons_self).1) 0 rfl rfl k hk (hA _ hl) (fun x h => by rw [← hrf]; exact h) hv hdg kk
theorem rg_X9 {fs : List Value} (hx : p.tables.exec = Jvm.exec) (hb : c.code = cc) (hA : ∀ w ∈ AL, w.before args s = true) (hE : en dC dI dA sz s) (hG : ty_ok (dC, dI) vwCl Γ (TP dA Γ g) sz ((a, .inr (9, fs)) :: X) H) {own : String} {index : Nat} (hown : s.vm.findClass own = some m.cls) (k : Nat) (hk : k < 47) (hl : Cond.fieldLink own index "WeekBankModel" (TX9 k).2.1 (TX9 k).2.2.1 ∈ AL) (hrf : (TX9 k).1 = "WeekBankModel") (v : Value) (hv : fs[k]? = some v) (hdg : decode cc pc = .ok (.getfield index, 3)) (kk : W p l e R s m args below meth c H locs cells slots Q (F0 m (pc + 3) ls (v :: rest))) : W p l e R s m args below meth c H locs cells slots Q (F0 m pc ls (.ref a :: rest)) :=
  va_get (C := RX9) (T := TX9) (N := 47) (ci := 9) hx hb hA in_X9 hown hE.1 (ty_one (hG.2.2.2 _ List.mem_cons_self).1) 0 rfl rfl k hk (hA _ hl) (fun x h => by rw [← hrf]; exact h) hv hdg kk
theorem ty_recv {k ci N : Nat} {C : String} {Tb : u_T} {F : Nat → Value → Prop} (hE : en dC dI dA sz s) (hG : ty_ok (dC, dI) vwCl Γ (TP dA Γ g) sz X H) (ha : (Γ a).1 = k) (hk : k ≠ 0) (hT : ∀ x, TP dA Γ g (Γ a) x → ty_O ci N F x) (hc : vwCl[ci]? = some (C, Tb, N)) : ∃ cell : Cell, H[a]? = some cell ∧ cell.vm.isStatics = false ∧ s.vm.findClass C = some cell.cls := by
  obtain ⟨-, x, h2, h3⟩ := hG.2.1 a (by rw [ha]; exact hk)
  obtain ⟨fs, rfl, -⟩ := hT x h3
  exact va_recv hE.1 (ty_one h2) hc (q0 := 0) (ci := ci) rfl
theorem recv_X0 (hE : en dC dI dA sz s) (hG : ty_ok (dC, dI) vwCl Γ (TP dA Γ g) sz X H) (ha : (Γ a).1 = 9) : ∃ cell : Cell, H[a]? = some cell ∧ cell.vm.isStatics = false ∧ s.vm.findClass RX0 = some cell.cls := ty_recv (ci := 0) hE hG ha (by decide) (fun x h => by rw [TP_9 ha] at h; exact h) rfl
theorem recv_X1 (hE : en dC dI dA sz s) (hG : ty_ok (dC, dI) vwCl Γ (TP dA Γ g) sz X H) (ha : (Γ a).1 = 2) : ∃ cell : Cell, H[a]? = some cell ∧ cell.vm.isStatics = false ∧ s.vm.findClass RX1 = some cell.cls := ty_recv (ci := 1) hE hG ha (by decide) (fun x h => by rw [TP_2 ha] at h; exact h) rfl
theorem recv_X2 (hE : en dC dI dA sz s) (hG : ty_ok (dC, dI) vwCl Γ (TP dA Γ g) sz X H) (ha : (Γ a).1 = 4) : ∃ cell : Cell, H[a]? = some cell ∧ cell.vm.isStatics = false ∧ s.vm.findClass RX2 = some cell.cls := ty_recv (ci := 2) hE hG ha (by decide) (fun x h => by rw [TP_4 ha] at h; exact h) rfl
theorem recv_X3 (hE : en dC dI dA sz s) (hG : ty_ok (dC, dI) vwCl Γ (TP dA Γ g) sz X H) (ha : (Γ a).1 = 3) : ∃ cell : Cell, H[a]? = some cell ∧ cell.vm.isStatics = false ∧ s.vm.findClass RX3 = some cell.cls := ty_recv (ci := 3) hE hG ha (by decide) (fun x h => by rw [TP_3 ha] at h; exact h) rfl
theorem recv_X4 (hE : en dC dI dA sz s) (hG : ty_ok (dC, dI) vwCl Γ (TP dA Γ g) sz X H) (ha : (Γ a).1 = 7) : ∃ cell : Cell, H[a]? = some cell ∧ cell.vm.isStatics = false ∧ s.vm.findClass RX4 = some cell.cls := ty_recv (ci := 4) hE hG ha (by decide) (fun x h => by rw [TP_7 ha] at h; exact h) rfl
theorem recv_X5 (hE : en dC dI dA sz s) (hG : ty_ok (dC, dI) vwCl Γ (TP dA Γ g) sz X H) (ha : (Γ a).1 = 8) : ∃ cell : Cell, H[a]? = some cell ∧ cell.vm.isStatics = false ∧ s.vm.findClass RX5 = some cell.cls := ty_recv (ci := 5) hE hG ha (by decide) (fun x h => by rw [TP_8 ha] at h; exact h) rfl
theorem recv_X6 (hE : en dC dI dA sz s) (hG : ty_ok (dC, dI) vwCl Γ (TP dA Γ g) sz X H) (ha : (Γ a).1 = 6) : ∃ cell : Cell, H[a]? = some cell ∧ cell.vm.isStatics = false ∧ s.vm.findClass RX6 = some cell.cls := ty_recv (ci := 6) hE hG ha (by decide) (fun x h => by rw [TP_6 ha] at h; exact h) rfl
theorem recv_X7 (hE : en dC dI dA sz s) (hG : ty_ok (dC, dI) vwCl Γ (TP dA Γ g) sz X H) (ha : (Γ a).1 = 5) : ∃ cell : Cell, H[a]? = some cell ∧ cell.vm.isStatics = false ∧ s.vm.findClass RX7 = some cell.cls := ty_recv (ci := 7) hE hG ha (by decide) (fun x h => by rw [TP_5 ha] at h; exact h) rfl
theorem recv_X8 (hE : en dC dI dA sz s) (hG : ty_ok (dC, dI) vwCl Γ (TP dA Γ g) sz X H) (ha : (Γ a).1 = 1) : ∃ cell : Cell, H[a]? = some cell ∧ cell.vm.isStatics = false ∧ s.vm.findClass RX8 = some cell.cls := ty_recv (ci := 8) hE hG ha (by decide) (fun x h => by rw [TP_1 ha] at h; exact h) rfl
theorem recv_X9 (hE : en dC dI dA sz s) (hG : ty_ok (dC, dI) vwCl Γ (TP dA Γ g) sz X H) (ha : (Γ a).1 = 30) : ∃ cell : Cell, H[a]? = some cell ∧ cell.vm.isStatics = false ∧ s.vm.findClass RX9 = some cell.cls := ty_recv (ci := 9) hE hG ha (by decide) (fun x h => by rw [TP_30 ha] at h; exact h) rfl
end ROWS3
