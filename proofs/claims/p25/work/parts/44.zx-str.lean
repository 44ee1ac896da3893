/-! ===== string constants: their objects, their lengths ===== -/
theorem str_recv {dI : Nat → Nat → Nat} {sz : Nat} {s : State} {H : Heap} {locs : List Loc} {k : Nat} (h : es dI sz s) (hS : va_S (ty_A sz) s.heap H locs) (hk : k < 12) : ∃ cell : Cell, H[dI 100 k]? = some cell ∧ cell.vm.isStatics = false ∧ s.vm.findClass "java/lang/String" = some cell.cls := by
  obtain ⟨cell, h1, h2, h3, -⟩ := (h.1 k hk).2.1.kept hS.2.1
  exact ⟨cell, h1, h2, h3⟩
theorem sB_le : ∀ k, k < 12 → (sB k).length ≤ 6 := by decide +kernel
theorem sB_len {k : Nat} (hk : k < 12) : (Int32.ofNat (sB k).length).toInt = ((sB k).length : Int) := Int32.toInt_ofNat_of_lt (by have := sB_le k hk; omega)
theorem sB_ch : ∀ k, k < 12 → ∀ i, i < (sB k).length → ((((sB k).getD i 0) &&& 255).toUInt32 % 65536).toInt32 = (sB k).getD i 0 ∧ narrow .char (.int ((sB k).getD i 0)) = .int ((sB k).getD i 0) := by decide +kernel
theorem shr_0 {x y z : Int32} (h : z = x >>> (y &&& 31)) (hy : y.toInt = 0) : z.toInt = x.toInt := by
  obtain rfl : y = 0 := ty_eq32.mpr hy
  subst h
  have e : x >>> ((0 : Int32) &&& 31) = x := by
    apply Int32.toBitVec_inj.mp; simp
  rw [e]

set_option maxHeartbeats 4000000 in
set_option maxRecDepth 100000 in
/-- java/lang/String.coder:  -/
theorem k_J0_coder_7d493 (l : Launch) (dC : Nat → ClassId) (dI : Nat → Nat → Nat) (dA : Nat → ClassId) (sz : Nat) (X : va_W) (Γ : ty_G) (hU : Un Γ) (g : gh) (kk : Nat) (hkk : kk < 12) : Met l yJ0_coder_7d493 (.code yJ0_coder_7d493 cJ0_coder_7d493 1 (Option.some Jvm.ClassFile.FieldType.byte) :: AL) ({ frames := 0, cells := 0, slots := 0, locals := 0 }) (PCx dC dI dA sz X Γ g [.ref (dI 100 kk)]) (va_Qi (fun (r : Int32) (u : gh) => u = g ∧ ((r.toInt = 0))) (okb dC dI dA sz X Γ) (ty_A sz)) 0 0 (ty_A sz) := by
  refine Met.ofW (cc := cJ0_coder_7d493) (maxL := 1) (ret := (Option.some Jvm.ClassFile.FieldType.byte)) (by decide) rfl ?_
  intro p e s m args below meth c s₁ B hml hv
  obtain ⟨rfl, hG, hE⟩ := hv
  have hx := B.exec
  have hb := B.bytes
  have hr := B.returns
  have hts := atoms_spec B.pre
  have hA : ∀ w ∈ AL, w.before _ s = true := fun w h => hts w (List.mem_cons_of_mem _ h)
  have hown : s.vm.findClass RJ0 = some m.cls := findClass_of_methodNamed B.named
  have hlocks := B.notSynchronized
  have hS : va_S (ty_A sz) s.heap s.heap [] := va_S.rf
  have hES := hE.2.1.2.2.2.2.2.2
  have hl := lv_entry ([.ref (dI 100 kk)]) (n := 1) (Nat.le_of_ble_eq_true rfl)
  rw [lg_entry_eq]
  generalize (lg_sl ([.ref (dI 100 kk)]) ++ List.replicate (1 - (lg_sl ([.ref (dI 100 kk)])).length) Slot.unset).toArray = ls at hl ⊢
  have hl : lv_has ls 1 [(0, .ref (dI 100 kk))] := hl
  refine va_gets hx hb hES.2.1 hS hown (hA _ wd_2_139) (fun _ h => h) dJ0_coder_7d493_0 ?_
  refine lv_topi (fun x1 h2 => ?_)
  replace h2 : x1.toInt = 1 := by rw [h2]; rfl
  refine ty_if_eq (tgt := 13) hx hb dJ0_coder_7d493_3 (by decide) (fun c3 => ?_) (fun c3 => ?_)
  · exfalso; omega
  · skip
    refine lv_aload_n hx hb dJ0_coder_7d493_6 rfl (lv_at hl 0 rfl) ?_
    refine vk_getf hx hb (hES.1 kk hkk).2.2.1 hS hown (hA _ wd_6_15) (fun _ h => h) dJ0_coder_7d493_7 ?_
    refine lv_topi (fun x4 h5 => ?_)
    replace h5 : x4.toInt = 0 := by rw [h5]; rfl
    refine lv_goto (tgt := 14) hx hb dJ0_coder_7d493_10 (by decide) ?_
    exact W.zret (v := x4) hx hb hr (by rw [show x4 = 0 from ty_eq32.mpr (by rw [Int32.toInt_zero]; omega)]; rfl) (fun t ht hW => ⟨⟨x4, g, rfl, ⟨rfl, (by omega)⟩, ok1 ht hG⟩, hS.F ht⟩) hS.2.2 dJ0_coder_7d493_14

set_option maxHeartbeats 4000000 in
set_option maxRecDepth 100000 in
/-- java/lang/String.length:  -/
theorem k_J0_length_8abf5 (l : Launch) (dC : Nat → ClassId) (dI : Nat → Nat → Nat) (dA : Nat → ClassId) (sz : Nat) (X : va_W) (Γ : ty_G) (hU : Un Γ) (g : gh) (kk : Nat) (hkk : kk < 12) : Met l yJ0_length_8abf5 (.code yJ0_length_8abf5 cJ0_length_8abf5 1 (Option.some Jvm.ClassFile.FieldType.int) :: AL) ({ frames := 1, cells := 0, slots := 0, locals := 20 }) (PCx dC dI dA sz X Γ g [.ref (dI 100 kk)]) (va_Qi (fun (r : Int32) (u : gh) => u = g ∧ ((r.toInt = ((sB kk).length : Int)))) (okb dC dI dA sz X Γ) (ty_A sz)) 0 0 (ty_A sz) := by
  refine Met.ofW (cc := cJ0_length_8abf5) (maxL := 1) (ret := (Option.some Jvm.ClassFile.FieldType.int)) (by decide) rfl ?_
  intro p e s m args below meth c s₁ B hml hv
  obtain ⟨rfl, hG, hE⟩ := hv
  have hx := B.exec
  have hb := B.bytes
  have hr := B.returns
  have hts := atoms_spec B.pre
  have hA : ∀ w ∈ AL, w.before _ s = true := fun w h => hts w (List.mem_cons_of_mem _ h)
  have hown : s.vm.findClass RJ0 = some m.cls := findClass_of_methodNamed B.named
  have hlocks := B.notSynchronized
  have hS : va_S (ty_A sz) s.heap s.heap [] := va_S.rf
  have hES := hE.2.1.2.2.2.2.2.2
  have hl := lv_entry ([.ref (dI 100 kk)]) (n := 1) (Nat.le_of_ble_eq_true rfl)
  rw [lg_entry_eq]
  generalize (lg_sl ([.ref (dI 100 kk)]) ++ List.replicate (1 - (lg_sl ([.ref (dI 100 kk)])).length) Slot.unset).toArray = ls at hl ⊢
  have hl : lv_has ls 1 [(0, .ref (dI 100 kk))] := hl
  refine lv_aload_n hx hb dJ0_length_8abf5_0 rfl (lv_at hl 0 rfl) ?_
  refine vk_getf hx hb (hES.1 kk hkk).2.2.2.1 hS hown (hA _ wd_6_14) (fun _ h => h) dJ0_length_8abf5_1 ?_
  refine va_tlen hx hb (hES.1 kk hkk).2.2.2.2 hS rfl dJ0_length_8abf5_4 ?_
  refine lv_topi (fun x1 h2 => ?_)
  replace h2 : x1.toInt = ((sB kk).length : Int) := by rw [h2]; exact sB_len hkk
  refine lv_aload_n hx hb dJ0_length_8abf5_5 rfl (lv_at hl 0 rfl) ?_
  refine cI (va_runV (C := RJ0) (As := []) (rest := [.int x1]) ⟨hx, hb, hml, hown, hA⟩ (k_J0_coder_7d493 l dC dI dA sz X Γ hU g kk hkk   ) ⟨callB_of 0 hA (al_A wd_2_138) rfl rfl rfl (hA _ wd_1_10) (hA _ wd_2_135) (by decide +kernel) ⟨Nat.le_of_ble_eq_true rfl, Nat.le_of_ble_eq_true rfl⟩, hA _ wd_2_136, hA _ wd_2_137⟩ ⟨bl, str_recv hES hS hkk, fun U hU9 hW9 => ⟨rfl, by rw [hU9]; exact hG, hE.go hS hU9 hW9⟩⟩ rfl rfl hl.1 rfl (lv_room (Nat.le_of_ble_eq_true rfl)) dJ0_length_8abf5_6 ⟨Nat.zero_le _, Nat.zero_le _⟩) hS (fun x5 u3 H locs w4 hG hS => ?_)
  obtain ⟨eu6, w4⟩ := w4
  rw [eu6] at hG
  refine lv_ishr hx hb dJ0_length_8abf5_9 ?_
  refine lv_topi (fun x7 h8 => ?_)
  have h9 : x7.toInt = x1.toInt := shr_0 h8 (by omega)
  exact W.iret (v := x7) hx hb hr (fun t ht hW => ⟨⟨x7, g, rfl, ⟨rfl, (by omega)⟩, ok1 ht hG⟩, hS.F ht⟩) hS.2.2 dJ0_length_8abf5_10

set_option maxHeartbeats 4000000 in
set_option maxRecDepth 100000 in
/-- java/lang/String.isLatin1:  -/
theorem k_J0_isLatin1_aae02 (l : Launch) (dC : Nat → ClassId) (dI : Nat → Nat → Nat) (dA : Nat → ClassId) (sz : Nat) (X : va_W) (Γ : ty_G) (hU : Un Γ) (g : gh) (kk : Nat) (hkk : kk < 12) : Met l yJ0_isLatin1_aae02 (.code yJ0_isLatin1_aae02 cJ0_isLatin1_aae02 1 (Option.some Jvm.ClassFile.FieldType.boolean) :: AL) ({ frames := 0, cells := 0, slots := 0, locals := 0 }) (PCx dC dI dA sz X Γ g [.ref (dI 100 kk)]) (va_Qi (fun (r : Int32) (u : gh) => u = g ∧ ((r.toInt = 1))) (okb dC dI dA sz X Γ) (ty_A sz)) 0 0 (ty_A sz) := by
  refine Met.ofW (cc := cJ0_isLatin1_aae02) (maxL := 1) (ret := (Option.some Jvm.ClassFile.FieldType.boolean)) (by decide) rfl ?_
  intro p e s m args below meth c s₁ B hml hv
  obtain ⟨rfl, hG, hE⟩ := hv
  have hx := B.exec
  have hb := B.bytes
  have hr := B.returns
  have hts := atoms_spec B.pre
  have hA : ∀ w ∈ AL, w.before _ s = true := fun w h => hts w (List.mem_cons_of_mem _ h)
  have hown : s.vm.findClass RJ0 = some m.cls := findClass_of_methodNamed B.named
  have hlocks := B.notSynchronized
  have hS : va_S (ty_A sz) s.heap s.heap [] := va_S.rf
  have hES := hE.2.1.2.2.2.2.2.2
  have hl := lv_entry ([.ref (dI 100 kk)]) (n := 1) (Nat.le_of_ble_eq_true rfl)
  rw [lg_entry_eq]
  generalize (lg_sl ([.ref (dI 100 kk)]) ++ List.replicate (1 - (lg_sl ([.ref (dI 100 kk)])).length) Slot.unset).toArray = ls at hl ⊢
  have hl : lv_has ls 1 [(0, .ref (dI 100 kk))] := hl
  refine va_gets hx hb hES.2.1 hS hown (hA _ wd_2_139) (fun _ h => h) dJ0_isLatin1_aae02_0 ?_
  refine lv_topi (fun x1 h2 => ?_)
  replace h2 : x1.toInt = 1 := by rw [h2]; rfl
  refine ty_if_eq (tgt := 17) hx hb dJ0_isLatin1_aae02_3 (by decide) (fun c3 => ?_) (fun c3 => ?_)
  · exfalso; omega
  · skip
    refine lv_aload_n hx hb dJ0_isLatin1_aae02_6 rfl (lv_at hl 0 rfl) ?_
    refine vk_getf hx hb (hES.1 kk hkk).2.2.1 hS hown (hA _ wd_6_15) (fun _ h => h) dJ0_isLatin1_aae02_7 ?_
    refine lv_topi (fun x4 h5 => ?_)
    replace h5 : x4.toInt = 0 := by rw [h5]; rfl
    refine ty_if_ne (tgt := 17) hx hb dJ0_isLatin1_aae02_10 (by decide) (fun c6 => ?_) (fun c6 => ?_)
    · exfalso; omega
    · skip
      refine ty_iconst hx hb (1) dJ0_isLatin1_aae02_13 (by decide) (fun x7 h8 => ?_)
      refine lv_goto (tgt := 18) hx hb dJ0_isLatin1_aae02_14 (by decide) ?_
      exact W.zret (v := x7) hx hb hr (ty_nb (by omega)).1 (fun t ht hW => ⟨⟨x7, g, rfl, ⟨rfl, (by omega)⟩, ok1 ht hG⟩, hS.F ht⟩) hS.2.2 dJ0_isLatin1_aae02_18

set_option maxHeartbeats 4000000 in
set_option maxRecDepth 100000 in
/-- jdk/internal/util/Preconditions.checkIndex:  -/
theorem k_J3_checkIndex_8e157 (l : Launch) (dC : Nat → ClassId) (dI : Nat → Nat → Nat) (dA : Nat → ClassId) (sz : Nat) (X : va_W) (Γ : ty_G) (hU : Un Γ) (g : gh) (p0 : Int32) (p1 : Int32) (xo : Option Nat) (hf : 0 ≤ p0.toInt ∧ p0.toInt < p1.toInt) : Met l yJ3_checkIndex_8e157 (.code yJ3_checkIndex_8e157 cJ3_checkIndex_8e157 3 (Option.some Jvm.ClassFile.FieldType.int) :: AL) ({ frames := 0, cells := 0, slots := 0, locals := 0 }) (PCx dC dI dA sz X Γ g [.int p0, .int p1, va_rf xo]) (va_Qi (fun (r : Int32) (u : gh) => u = g) (okb dC dI dA sz X Γ) (ty_A sz)) 0 0 (ty_A sz) := by
  refine Met.ofW (cc := cJ3_checkIndex_8e157) (maxL := 3) (ret := (Option.some Jvm.ClassFile.FieldType.int)) (by decide) rfl ?_
  intro p e s m args below meth c s₁ B hml hv
  obtain ⟨rfl, hG, hE⟩ := hv
  have hx := B.exec
  have hb := B.bytes
  have hr := B.returns
  have hts := atoms_spec B.pre
  have hA : ∀ w ∈ AL, w.before _ s = true := fun w h => hts w (List.mem_cons_of_mem _ h)
  have hown : s.vm.findClass RJ3 = some m.cls := findClass_of_methodNamed B.named
  have hlocks := B.notSynchronized
  have hS : va_S (ty_A sz) s.heap s.heap [] := va_S.rf
  have hES := hE.2.1.2.2.2.2.2.2
  have hl := lv_entry ([.int p0, .int p1, va_rf xo]) (n := 3) (by cases xo <;> exact Nat.le_of_ble_eq_true rfl)
  rw [lg_entry_eq]
  generalize (lg_sl ([.int p0, .int p1, va_rf xo]) ++ List.replicate (3 - (lg_sl ([.int p0, .int p1, va_rf xo])).length) Slot.unset).toArray = ls at hl ⊢
  have hl : lv_has ls 3 [(0, .int p0), (1, .int p1), (2, va_rf xo)] := by cases xo <;> exact hl
  refine lv_iload_n hx hb dJ3_checkIndex_8e157_0 rfl (lv_at hl 0 rfl) ?_
  refine ty_if_lt (tgt := 9) hx hb dJ3_checkIndex_8e157_1 (by decide) (fun c1 => ?_) (fun c1 => ?_)
  · exfalso; omega
  · skip
    refine lv_iload_n hx hb dJ3_checkIndex_8e157_4 rfl (lv_at hl 0 rfl) ?_
    refine lv_iload_n hx hb dJ3_checkIndex_8e157_5 rfl (lv_at hl 1 rfl) ?_
    refine ty_icmp_lt (tgt := 16) hx hb dJ3_checkIndex_8e157_6 (by decide) (fun c2 => ?_) (fun c2 => ?_)
    · skip
      refine lv_iload_n hx hb dJ3_checkIndex_8e157_16 rfl (lv_at hl 0 rfl) ?_
      exact W.iret (v := p0) hx hb hr (fun t ht hW => ⟨⟨p0, g, rfl, rfl, ok1 ht hG⟩, hS.F ht⟩) hS.2.2 dJ3_checkIndex_8e157_17
    · exfalso; omega

set_option maxHeartbeats 4000000 in
set_option maxRecDepth 100000 in
/-- java/lang/String.checkIndex:  -/
theorem k_J0_checkIndex_df160 (l : Launch) (dC : Nat → ClassId) (dI : Nat → Nat → Nat) (dA : Nat → ClassId) (sz : Nat) (X : va_W) (Γ : ty_G) (hU : Un Γ) (g : gh) (p0 : Int32) (p1 : Int32) (hf : 0 ≤ p0.toInt ∧ p0.toInt < p1.toInt) : Met l yJ0_checkIndex_df160 (.code yJ0_checkIndex_df160 cJ0_checkIndex_df160 2 (Option.none : Option Jvm.ClassFile.FieldType) :: AL) ({ frames := 1, cells := 0, slots := 0, locals := 22 }) (PCx dC dI dA sz X Γ g [.int p0, .int p1]) (va_Qv (fun (u : gh) => u = g) (okb dC dI dA sz X Γ) (ty_A sz)) 0 0 (ty_A sz) := by
  refine Met.ofW (cc := cJ0_checkIndex_df160) (maxL := 2) (ret := (Option.none : Option Jvm.ClassFile.FieldType)) (by decide) rfl ?_
  intro p e s m args below meth c s₁ B hml hv
  obtain ⟨rfl, hG, hE⟩ := hv
  have hx := B.exec
  have hb := B.bytes
  have hr := B.returns
  have hts := atoms_spec B.pre
  have hA : ∀ w ∈ AL, w.before _ s = true := fun w h => hts w (List.mem_cons_of_mem _ h)
  have hown : s.vm.findClass RJ0 = some m.cls := findClass_of_methodNamed B.named
  have hlocks := B.notSynchronized
  have hS : va_S (ty_A sz) s.heap s.heap [] := va_S.rf
  have hES := hE.2.1.2.2.2.2.2.2
  have hl := lv_entry ([.int p0, .int p1]) (n := 2) (Nat.le_of_ble_eq_true rfl)
  rw [lg_entry_eq]
  generalize (lg_sl ([.int p0, .int p1]) ++ List.replicate (2 - (lg_sl ([.int p0, .int p1])).length) Slot.unset).toArray = ls at hl ⊢
  have hl : lv_has ls 2 [(0, .int p0), (1, .int p1)] := hl
  refine lv_iload_n hx hb dJ0_checkIndex_df160_0 rfl (lv_at hl 0 rfl) ?_
  refine lv_iload_n hx hb dJ0_checkIndex_df160_1 rfl (lv_at hl 1 rfl) ?_
  obtain ⟨o1, ho1⟩ := hES.2.2.1
  refine va_gets hx hb ho1 hS hown (hA _ wd_2_155) (fun _ h => h) dJ0_checkIndex_df160_2 ?_
  refine cI (va_runS (As := [.int p0, .int p1, va_rf o1]) (rest := []) ⟨hx, hb, hml, hown, hA⟩ (k_J3_checkIndex_8e157 l dC dI dA sz X Γ hU g p0 p1 o1   (by omega)) ⟨callB_of 3 hA (al_A wd_2_159) rfl rfl rfl (hA _ wd_1_12) (hA _ wd_2_157) (by decide +kernel) ⟨Nat.le_of_ble_eq_true rfl, Nat.le_of_ble_eq_true rfl⟩, hA _ wd_2_158⟩ ⟨bl, fun U hU9 hW9 => ⟨rfl, by rw [hU9]; exact hG, hE.go hS hU9 hW9⟩⟩ rfl rfl hl.1 rfl (lv_room (Nat.le_of_ble_eq_true rfl)) dJ0_checkIndex_df160_5 ⟨Nat.zero_le _, Nat.zero_le _⟩) hS (fun x4 u2 H locs w3 hG hS => ?_)
  have eu5 := w3
  rw [eu5] at hG
  refine lv_pop hx hb dJ0_checkIndex_df160_8 rfl ?_
  exact W.vret hx hb hr (fun t ht hW => ⟨⟨g, rfl, rfl, ok1 ht hG⟩, hS.F ht⟩) hS.2.2 dJ0_checkIndex_df160_9

set_option maxHeartbeats 4000000 in
set_option maxRecDepth 100000 in
/-- java/lang/StringLatin1.charAt:  -/
theorem k_J1_charAt_3b067 (l : Launch) (dC : Nat → ClassId) (dI : Nat → Nat → Nat) (dA : Nat → ClassId) (sz : Nat) (X : va_W) (Γ : ty_G) (hU : Un Γ) (g : gh) (kk : Nat) (hkk : kk < 12) (p1 : Int32) (hf : 0 ≤ p1.toInt ∧ p1.toInt < ((sB kk).length : Int)) : Met l yJ1_charAt_3b067 (.code yJ1_charAt_3b067 cJ1_charAt_3b067 2 (Option.some Jvm.ClassFile.FieldType.char) :: AL) ({ frames := 2, cells := 0, slots := 0, locals := 43 }) (PCx dC dI dA sz X Γ g [.ref (dI 102 kk), .int p1]) (va_Qi (fun (r : Int32) (u : gh) => u = g ∧ ((r = (sB kk).getD p1.toInt.toNat 0))) (okb dC dI dA sz X Γ) (ty_A sz)) 0 0 (ty_A sz) := by
  refine Met.ofW (cc := cJ1_charAt_3b067) (maxL := 2) (ret := (Option.some Jvm.ClassFile.FieldType.char)) (by decide) rfl ?_
  intro p e s m args below meth c s₁ B hml hv
  obtain ⟨rfl, hG, hE⟩ := hv
  have hx := B.exec
  have hb := B.bytes
  have hr := B.returns
  have hts := atoms_spec B.pre
  have hA : ∀ w ∈ AL, w.before _ s = true := fun w h => hts w (List.mem_cons_of_mem _ h)
  have hown : s.vm.findClass RJ1 = some m.cls := findClass_of_methodNamed B.named
  have hlocks := B.notSynchronized
  have hS : va_S (ty_A sz) s.heap s.heap [] := va_S.rf
  have hES := hE.2.1.2.2.2.2.2.2
  have hl := lv_entry ([.ref (dI 102 kk), .int p1]) (n := 2) (Nat.le_of_ble_eq_true rfl)
  rw [lg_entry_eq]
  generalize (lg_sl ([.ref (dI 102 kk), .int p1]) ++ List.replicate (2 - (lg_sl ([.ref (dI 102 kk), .int p1])).length) Slot.unset).toArray = ls at hl ⊢
  have hl : lv_has ls 2 [(0, .ref (dI 102 kk)), (1, .int p1)] := hl
  refine lv_iload_n hx hb dJ1_charAt_3b067_0 rfl (lv_at hl 1 rfl) ?_
  refine lv_aload_n hx hb dJ1_charAt_3b067_1 rfl (lv_at hl 0 rfl) ?_
  refine va_tlen hx hb (hES.1 kk hkk).2.2.2.2 hS rfl dJ1_charAt_3b067_2 ?_
  refine lv_topi (fun x1 h2 => ?_)
  replace h2 : x1.toInt = ((sB kk).length : Int) := by rw [h2]; exact sB_len hkk
  refine cV (va_runS (As := [.int p1, .int x1]) (rest := []) ⟨hx, hb, hml, hown, hA⟩ (k_J0_checkIndex_df160 l dC dI dA sz X Γ hU g p1 x1   (by omega)) ⟨callB_of 2 hA (al_A wd_2_154) rfl rfl rfl (hA _ wd_1_10) (hA _ wd_2_152) (by decide +kernel) ⟨Nat.le_of_ble_eq_true rfl, Nat.le_of_ble_eq_true rfl⟩, hA _ wd_2_153⟩ ⟨bl, fun U hU9 hW9 => ⟨rfl, by rw [hU9]; exact hG, hE.go hS hU9 hW9⟩⟩ rfl rfl hl.1 rfl (lv_room (Nat.le_of_ble_eq_true rfl)) dJ1_charAt_3b067_3 ⟨Nat.zero_le _, Nat.zero_le _⟩) hS (fun u3 H locs w4 hG hS => ?_)
  have eu5 := w4
  rw [eu5] at hG
  refine lv_aload_n hx hb dJ1_charAt_3b067_6 rfl (lv_at hl 0 rfl) ?_
  refine lv_iload_n hx hb dJ1_charAt_3b067_7 rfl (lv_at hl 1 rfl) ?_
  refine va_tb hx hb (hES.1 kk hkk).2.2.2.2 hS (i := p1) (ty_ix (by omega)) rfl dJ1_charAt_3b067_8 ?_
  refine lv_topi (fun x6 h7 => ?_)
  refine lv_sipush (v := 255) hx hb dJ1_charAt_3b067_9 (by decide) ?_
  refine lv_topi (fun x8 h9 => ?_)
  refine ty_iand hx hb dJ1_charAt_3b067_12 (fun x10 h11 => ?_)
  refine lv_i2c hx hb dJ1_charAt_3b067_13 rfl ?_
  refine lv_topi (fun x12 h13 => ?_)
  have ech : x12 = (sB kk).getD p1.toInt.toNat 0 := by subst_vars; exact (sB_ch kk hkk p1.toInt.toNat (by omega)).1
  exact W.zret (v := x12) hx hb hr (by rw [ech]; exact (sB_ch kk hkk p1.toInt.toNat (by omega)).2) (fun t ht hW => ⟨⟨x12, g, rfl, ⟨rfl, (ech)⟩, ok1 ht hG⟩, hS.F ht⟩) hS.2.2 dJ1_charAt_3b067_14

set_option maxHeartbeats 4000000 in
set_option maxRecDepth 100000 in
/-- java/lang/String.charAt:  -/
theorem k_J0_charAt_5068e (l : Launch) (dC : Nat → ClassId) (dI : Nat → Nat → Nat) (dA : Nat → ClassId) (sz : Nat) (X : va_W) (Γ : ty_G) (hU : Un Γ) (g : gh) (kk : Nat) (hkk : kk < 12) (p1 : Int32) (hf : 0 ≤ p1.toInt ∧ p1.toInt < ((sB kk).length : Int)) : Met l yJ0_charAt_5068e (.code yJ0_charAt_5068e cJ0_charAt_5068e 2 (Option.some Jvm.ClassFile.FieldType.char) :: AL) ({ frames := 3, cells := 0, slots := 0, locals := 64 }) (PCx dC dI dA sz X Γ g [.ref (dI 100 kk), .int p1]) (va_Qi (fun (r : Int32) (u : gh) => u = g ∧ ((r = (sB kk).getD p1.toInt.toNat 0))) (okb dC dI dA sz X Γ) (ty_A sz)) 0 0 (ty_A sz) := by
  refine Met.ofW (cc := cJ0_charAt_5068e) (maxL := 2) (ret := (Option.some Jvm.ClassFile.FieldType.char)) (by decide) rfl ?_
  intro p e s m args below meth c s₁ B hml hv
  obtain ⟨rfl, hG, hE⟩ := hv
  have hx := B.exec
  have hb := B.bytes
  have hr := B.returns
  have hts := atoms_spec B.pre
  have hA : ∀ w ∈ AL, w.before _ s = true := fun w h => hts w (List.mem_cons_of_mem _ h)
  have hown : s.vm.findClass RJ0 = some m.cls := findClass_of_methodNamed B.named
  have hlocks := B.notSynchronized
  have hS : va_S (ty_A sz) s.heap s.heap [] := va_S.rf
  have hES := hE.2.1.2.2.2.2.2.2
  have hl := lv_entry ([.ref (dI 100 kk), .int p1]) (n := 2) (Nat.le_of_ble_eq_true rfl)
  rw [lg_entry_eq]
  generalize (lg_sl ([.ref (dI 100 kk), .int p1]) ++ List.replicate (2 - (lg_sl ([.ref (dI 100 kk), .int p1])).length) Slot.unset).toArray = ls at hl ⊢
  have hl : lv_has ls 2 [(0, .ref (dI 100 kk)), (1, .int p1)] := hl
  refine lv_aload_n hx hb dJ0_charAt_5068e_0 rfl (lv_at hl 0 rfl) ?_
  refine cI (va_runV (C := RJ0) (As := []) (rest := []) ⟨hx, hb, hml, hown, hA⟩ (k_J0_isLatin1_aae02 l dC dI dA sz X Γ hU g kk hkk   ) ⟨callB_of 0 hA (al_A wd_2_148) rfl rfl rfl (hA _ wd_1_10) (hA _ wd_2_145) (by decide +kernel) ⟨Nat.le_of_ble_eq_true rfl, Nat.le_of_ble_eq_true rfl⟩, hA _ wd_2_146, hA _ wd_2_147⟩ ⟨bl, str_recv hES hS hkk, fun U hU9 hW9 => ⟨rfl, by rw [hU9]; exact hG, hE.go hS hU9 hW9⟩⟩ rfl rfl hl.1 rfl (lv_room (Nat.le_of_ble_eq_true rfl)) dJ0_charAt_5068e_1 ⟨Nat.zero_le _, Nat.zero_le _⟩) hS (fun x3 u1 H locs w2 hG hS => ?_)
  obtain ⟨eu4, w2⟩ := w2
  rw [eu4] at hG
  refine ty_if_eq (tgt := 16) hx hb dJ0_charAt_5068e_4 (by decide) (fun c5 => ?_) (fun c5 => ?_)
  · exfalso; omega
  · skip
    refine lv_aload_n hx hb dJ0_charAt_5068e_7 rfl (lv_at hl 0 rfl) ?_
    refine vk_getf hx hb (hES.1 kk hkk).2.2.2.1 hS hown (hA _ wd_6_14) (fun _ h => h) dJ0_charAt_5068e_8 ?_
    refine lv_iload_n hx hb dJ0_charAt_5068e_11 rfl (lv_at hl 1 rfl) ?_
    refine cI (va_runS (As := [.ref (dI 102 kk), .int p1]) (rest := []) ⟨hx, hb, hml, hown, hA⟩ (k_J1_charAt_3b067 l dC dI dA sz X Γ hU g kk hkk p1   (by omega)) ⟨callB_of 2 hA (al_A wd_2_151) rfl rfl rfl (hA _ wd_1_11) (hA _ wd_2_149) (by decide +kernel) ⟨Nat.le_of_ble_eq_true rfl, Nat.le_of_ble_eq_true rfl⟩, hA _ wd_2_150⟩ ⟨bl, fun U hU9 hW9 => ⟨rfl, by rw [hU9]; exact hG, hE.go hS hU9 hW9⟩⟩ rfl rfl hl.1 rfl (lv_room (Nat.le_of_ble_eq_true rfl)) dJ0_charAt_5068e_12 ⟨Nat.zero_le _, Nat.zero_le _⟩) hS (fun x8 u6 H locs w7 hG hS => ?_)
    obtain ⟨eu9, w7⟩ := w7
    rw [eu9] at hG
    have ech : x8 = (sB kk).getD p1.toInt.toNat 0 := by assumption
    exact W.zret (v := x8) hx hb hr (by rw [ech]; exact (sB_ch kk hkk p1.toInt.toNat (by omega)).2) (fun t ht hW => ⟨⟨x8, g, rfl, ⟨rfl, (ech)⟩, ok1 ht hG⟩, hS.F ht⟩) hS.2.2 dJ0_charAt_5068e_15
