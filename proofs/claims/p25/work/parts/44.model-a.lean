set_option maxHeartbeats 4000000 in
set_option maxRecDepth 100000 in
/-- WeekBankModel.givenAt:  -/
theorem k_X9_givenAt (l : Launch) (dC : Nat → ClassId) (dI : Nat → Nat → Nat) (dA : Nat → ClassId) (sz : Nat) (X : va_W) (Γ : ty_G) (hU : Un Γ) (g : gh) (h0 : Nat) (t_h0 : ty Γ h0 30) (p1 : Int32) (p2 : Int32) (m26 : 0 ≤ g 126 0 ∧ g 126 0 ≤ 200) : Met l yX9_givenAt (.code yX9_givenAt cX9_givenAt 5 (Option.some Jvm.ClassFile.FieldType.int) :: AL) ({ frames := 0, cells := 0, slots := 0, locals := 0 }) (PCx dC dI dA sz X Γ g [.ref h0, .int p1, .int p2]) (va_Qi (fun (r : Int32) (u : gh) => u = g ∧ ((-1 ≤ r.toInt ∧ r.toInt < g 126 0) ∧ (r.toInt = ga_f (g 128) (g 129) (g 130) p1.toInt p2.toInt ((g 111) 0) ((g 126) 0).toNat))) (okb dC dI dA sz X Γ) (ty_A sz)) 0 0 (ty_A sz) := by
  refine Met.ofW (cc := cX9_givenAt) (maxL := 5) (ret := (Option.some Jvm.ClassFile.FieldType.int)) (by decide) rfl ?_
  intro p e s m args below meth c s₁ B hml hv
  obtain ⟨rfl, hG, hE⟩ := hv
  have hx := B.exec
  have hb := B.bytes
  have hr := B.returns
  have hts := atoms_spec B.pre
  have hA : ∀ w ∈ AL, w.before _ s = true := fun w h => hts w (List.mem_cons_of_mem _ h)
  have hown : s.vm.findClass RX9 = some m.cls := findClass_of_methodNamed B.named
  have hlocks := B.notSynchronized
  have hS : va_S (ty_A sz) s.heap s.heap [] := va_S.rf
  have hl := lv_entry ([.ref h0, .int p1, .int p2]) (n := 5) (Nat.le_of_ble_eq_true rfl)
  rw [lg_entry_eq]
  generalize (lg_sl ([.ref h0, .int p1, .int p2]) ++ List.replicate (5 - (lg_sl ([.ref h0, .int p1, .int p2])).length) Slot.unset).toArray = ls at hl ⊢
  have hl : lv_has ls 5 [(0, .ref h0), (1, .int p1), (2, .int p2)] := hl
  refine ty_iconst hx hb (-1) dX9_givenAt_0 (by decide) (fun x1 h2 => ?_)
  refine lv_istore_n (lv' := [(3, .int x1), (0, .ref h0), (1, .int p1), (2, .int p2)]) hx hb dX9_givenAt_1 rfl hl (by decide) rfl (fun ls hl => ?_)
  refine ty_iconst hx hb (0) dX9_givenAt_2 (by decide) (fun x3 h4 => ?_)
  refine lv_istore (lv' := [(4, .int x3), (3, .int x1), (0, .ref h0), (1, .int p1), (2, .int p2)]) hx hb dX9_givenAt_3 hl (by decide) rfl (fun ls hl => ?_)
  have L_5 : ∀ (n : Nat) (v4_5 : Int32) (v3_5 : Int32) (H : Heap) (locs : List Loc) (ls : Array Slot), (g 126 0 - v4_5.toInt : Int) < n → 0 ≤ v4_5.toInt ∧ v4_5.toInt ≤ g 126 0 → -1 ≤ v3_5.toInt ∧ v3_5.toInt < v4_5.toInt → (v3_5.toInt = ga_f (g 128) (g 129) (g 130) p1.toInt p2.toInt (g 111 0) v4_5.toInt.toNat) → ty_ok (dC, dI) vwCl Γ (TP dA Γ g) sz X H → va_S (ty_A sz) s.heap H locs → lv_has ls 5 [(4, .int v4_5), (3, .int v3_5), (0, .ref h0), (1, .int p1), (2, .int p2)] → W p l e (headSpec (.code yX9_givenAt cX9_givenAt 5 (Option.some Jvm.ClassFile.FieldType.int) :: AL) ({ frames := 0, cells := 0, slots := 0, locals := 0 })).room s m ([.ref h0, .int p1, .int p2] : List Value).toArray below meth c H locs 0 0 (MQ below (va_Qi (fun (r : Int32) (u : gh) => u = g ∧ ((-1 ≤ r.toInt ∧ r.toInt < g 126 0) ∧ (r.toInt = ga_f (g 128) (g 129) (g 130) p1.toInt p2.toInt ((g 111) 0) ((g 126) 0).toNat))) (okb dC dI dA sz X Γ) (ty_A sz)) ([.ref h0, .int p1, .int p2] : List Value).toArray s 0 0 (ty_A sz)) (F0 m 5 ls []) := by
    intro n
    induction n with
    | zero => intro v4_5 v3_5 H locs ls hm hi0 hi1 hq0 hG hS hl; exfalso; omega
    | succ n ih_5 =>
      intro v4_5 v3_5 H locs ls hm hi0 hi1 hq0 hG hS hl
      refine lv_iload hx hb dX9_givenAt_5 (lv_at hl 0 rfl) ?_
      refine lv_aload_n hx hb dX9_givenAt_7 rfl (lv_at hl 2 rfl) ?_
      refine get_X9_26 hx hb hA hown hE hG t_h0 wd_4_156 dX9_givenAt_8 (fun x6 h7 => ?_)
      refine ty_icmp_ge (tgt := 59) hx hb dX9_givenAt_11 (by decide) (fun c9 => ?_) (fun c9 => ?_)
      · skip
        refine lv_iload_n hx hb dX9_givenAt_59 rfl (lv_at hl 1 rfl) ?_
        exact W.iret (v := v3_5) hx hb hr (fun t ht hW => ⟨⟨v3_5, g, rfl, ⟨rfl, (⟨by omega, by rw [hq0, show v4_5.toInt.toNat = (g 126 0).toNat by omega]⟩)⟩, ok1 ht hG⟩, hS.F ht⟩) hS.2.2 dX9_givenAt_60
      · skip
        refine lv_aload_n hx hb dX9_givenAt_14 rfl (lv_at hl 2 rfl) ?_
        refine get_X9_30 hx hb hA hown hE hG t_h0 wd_4_160 dX9_givenAt_15 (fun b10 (t_b10 : ty Γ b10 130) => ?_)
        refine lv_iload hx hb dX9_givenAt_18 (lv_at hl 0 rfl) ?_
        refine ald_mI hx hb hE hG 30 rfl (n := 200) rfl (lo := -2147483648) (hi := 2147483647) rfl rfl t_b10 (by omega) dX9_givenAt_20 (fun j12 x11 h13 h14 h15 => ?_)
        clear h15
        obtain rfl : j12 = v4_5.toInt.toNat := by omega
        replace h14 : x11.toInt = g 130 v4_5.toInt.toNat := h14
        refine lv_aload_n hx hb dX9_givenAt_21 rfl (lv_at hl 2 rfl) ?_
        refine get_X9_11 hx hb hA hown hE hG t_h0 wd_4_141 dX9_givenAt_22 (fun x16 h17 => ?_)
        refine ty_icmp_ne (tgt := 53) hx hb dX9_givenAt_25 (by decide) (fun c19 => ?_) (fun c19 => ?_)
        · skip
          obtain ⟨x20, h21⟩ : ∃ y : Int32, y = v4_5 + Int32.ofInt (1) := ⟨_, rfl⟩
          try have h22 : x20.toInt = v4_5.toInt + (1) := ty_inc h21 (by decide) (by omega) (by omega)
          refine lv_iinc (v := x20) (lv' := [(4, .int x20), (3, .int v3_5), (0, .ref h0), (1, .int p1), (2, .int p2)]) hx hb dX9_givenAt_53 hl (k := 0) rfl h21.symm (by decide) rfl (fun ls hl => ?_)
          refine lv_goto (tgt := 5) hx hb dX9_givenAt_56 (by decide) ?_
          exact ih_5 x20 v3_5 _ _ ls (by omega) (by omega) (by omega) (ga_no hq0 (by omega) (by omega)) hG hS (lv_sub hl [0, 1, 2, 3, 4] rfl)
        · skip
          refine lv_aload_n hx hb dX9_givenAt_28 rfl (lv_at hl 2 rfl) ?_
          refine get_X9_28 hx hb hA hown hE hG t_h0 wd_4_158 dX9_givenAt_29 (fun b23 (t_b23 : ty Γ b23 128) => ?_)
          refine lv_iload hx hb dX9_givenAt_32 (lv_at hl 0 rfl) ?_
          refine ald_mI hx hb hE hG 28 rfl (n := 200) rfl (lo := 0) (hi := 5) rfl rfl t_b23 (by omega) dX9_givenAt_34 (fun j25 x24 h26 h27 h28 => ?_)
          obtain rfl : j25 = v4_5.toInt.toNat := by omega
          replace h27 : x24.toInt = g 128 v4_5.toInt.toNat := h27
          refine lv_iload_n hx hb dX9_givenAt_35 rfl (lv_at hl 3 rfl) ?_
          refine ty_icmp_ne (tgt := 53) hx hb dX9_givenAt_36 (by decide) (fun c29 => ?_) (fun c29 => ?_)
          · skip
            obtain ⟨x30, h31⟩ : ∃ y : Int32, y = v4_5 + Int32.ofInt (1) := ⟨_, rfl⟩
            try have h32 : x30.toInt = v4_5.toInt + (1) := ty_inc h31 (by decide) (by omega) (by omega)
            refine lv_iinc (v := x30) (lv' := [(4, .int x30), (3, .int v3_5), (0, .ref h0), (1, .int p1), (2, .int p2)]) hx hb dX9_givenAt_53 hl (k := 0) rfl h31.symm (by decide) rfl (fun ls hl => ?_)
            refine lv_goto (tgt := 5) hx hb dX9_givenAt_56 (by decide) ?_
            exact ih_5 x30 v3_5 _ _ ls (by omega) (by omega) (by omega) (ga_no hq0 (by omega) (by omega)) hG hS (lv_sub hl [0, 1, 2, 3, 4] rfl)
          · skip
            refine lv_aload_n hx hb dX9_givenAt_39 rfl (lv_at hl 2 rfl) ?_
            refine get_X9_29 hx hb hA hown hE hG t_h0 wd_4_159 dX9_givenAt_40 (fun b33 (t_b33 : ty Γ b33 129) => ?_)
            refine lv_iload hx hb dX9_givenAt_43 (lv_at hl 0 rfl) ?_
            refine ald_mI hx hb hE hG 29 rfl (n := 200) rfl (lo := -2147483648) (hi := 2147483647) rfl rfl t_b33 (by omega) dX9_givenAt_45 (fun j35 x34 h36 h37 h38 => ?_)
            clear h38
            obtain rfl : j35 = v4_5.toInt.toNat := by omega
            replace h37 : x34.toInt = g 129 v4_5.toInt.toNat := h37
            refine lv_iload_n hx hb dX9_givenAt_46 rfl (lv_at hl 4 rfl) ?_
            refine ty_icmp_ne (tgt := 53) hx hb dX9_givenAt_47 (by decide) (fun c39 => ?_) (fun c39 => ?_)
            · skip
              obtain ⟨x40, h41⟩ : ∃ y : Int32, y = v4_5 + Int32.ofInt (1) := ⟨_, rfl⟩
              try have h42 : x40.toInt = v4_5.toInt + (1) := ty_inc h41 (by decide) (by omega) (by omega)
              refine lv_iinc (v := x40) (lv' := [(4, .int x40), (3, .int v3_5), (0, .ref h0), (1, .int p1), (2, .int p2)]) hx hb dX9_givenAt_53 hl (k := 0) rfl h41.symm (by decide) rfl (fun ls hl => ?_)
              refine lv_goto (tgt := 5) hx hb dX9_givenAt_56 (by decide) ?_
              exact ih_5 x40 v3_5 _ _ ls (by omega) (by omega) (by omega) (ga_no hq0 (by omega) (by omega)) hG hS (lv_sub hl [0, 1, 2, 3, 4] rfl)
            · skip
              refine lv_iload hx hb dX9_givenAt_50 (lv_at hl 0 rfl) ?_
              refine lv_istore_n (lv' := [(3, .int v4_5), (4, .int v4_5), (0, .ref h0), (1, .int p1), (2, .int p2)]) hx hb dX9_givenAt_52 rfl hl (by decide) rfl (fun ls hl => ?_)
              obtain ⟨x43, h44⟩ : ∃ y : Int32, y = v4_5 + Int32.ofInt (1) := ⟨_, rfl⟩
              try have h45 : x43.toInt = v4_5.toInt + (1) := ty_inc h44 (by decide) (by omega) (by omega)
              refine lv_iinc (v := x43) (lv' := [(4, .int x43), (3, .int v4_5), (0, .ref h0), (1, .int p1), (2, .int p2)]) hx hb dX9_givenAt_53 hl (k := 1) rfl h44.symm (by decide) rfl (fun ls hl => ?_)
              refine lv_goto (tgt := 5) hx hb dX9_givenAt_56 (by decide) ?_
              exact ih_5 x43 v4_5 _ _ ls (by omega) (by omega) (by omega) (ga_y (n := v4_5.toInt.toNat) (by omega) (by omega) (by omega)) hG hS (lv_sub hl [0, 1, 2, 3, 4] rfl)
  exact L_5 ((g 126 0 - x3.toInt) + 1).toNat x3 x1 _ _ ls (by omega) (by omega) (by omega) (by rw [show x3.toInt.toNat = 0 by omega]; show _ = (-1 : Int); omega) hG hS (lv_sub hl [0, 1, 2, 3, 4] rfl)

set_option maxHeartbeats 4000000 in
set_option maxRecDepth 100000 in
/-- WeekBankModel.many:  -/
theorem k_X9_many (l : Launch) (dC : Nat → ClassId) (dI : Nat → Nat → Nat) (dA : Nat → ClassId) (sz : Nat) (X : va_W) (Γ : ty_G) (hU : Un Γ) (g : gh) (h0 : Nat) (t_h0 : ty Γ h0 30) (p1 : Int32) (m26 : 0 ≤ g 126 0 ∧ g 126 0 ≤ 200) : Met l yX9_many (.code yX9_many cX9_many 4 (Option.some Jvm.ClassFile.FieldType.int) :: AL) ({ frames := 0, cells := 0, slots := 0, locals := 0 }) (PCx dC dI dA sz X Γ g [.ref h0, .int p1]) (va_Qi (fun (r : Int32) (u : gh) => u = g ∧ ((r.toInt = (cnt ((g 126) 0).toNat (g 132) p1.toInt : Int)))) (okb dC dI dA sz X Γ) (ty_A sz)) 0 0 (ty_A sz) := by
  refine Met.ofW (cc := cX9_many) (maxL := 4) (ret := (Option.some Jvm.ClassFile.FieldType.int)) (by decide) rfl ?_
  intro p e s m args below meth c s₁ B hml hv
  obtain ⟨rfl, hG, hE⟩ := hv
  have hx := B.exec
  have hb := B.bytes
  have hr := B.returns
  have hts := atoms_spec B.pre
  have hA : ∀ w ∈ AL, w.before _ s = true := fun w h => hts w (List.mem_cons_of_mem _ h)
  have hown : s.vm.findClass RX9 = some m.cls := findClass_of_methodNamed B.named
  have hlocks := B.notSynchronized
  have hS : va_S (ty_A sz) s.heap s.heap [] := va_S.rf
  have hl := lv_entry ([.ref h0, .int p1]) (n := 4) (Nat.le_of_ble_eq_true rfl)
  rw [lg_entry_eq]
  generalize (lg_sl ([.ref h0, .int p1]) ++ List.replicate (4 - (lg_sl ([.ref h0, .int p1])).length) Slot.unset).toArray = ls at hl ⊢
  have hl : lv_has ls 4 [(0, .ref h0), (1, .int p1)] := hl
  refine ty_iconst hx hb (0) dX9_many_0 (by decide) (fun x1 h2 => ?_)
  refine lv_istore_n (lv' := [(2, .int x1), (0, .ref h0), (1, .int p1)]) hx hb dX9_many_1 rfl hl (by decide) rfl (fun ls hl => ?_)
  refine ty_iconst hx hb (0) dX9_many_2 (by decide) (fun x3 h4 => ?_)
  refine lv_istore_n (lv' := [(3, .int x3), (2, .int x1), (0, .ref h0), (1, .int p1)]) hx hb dX9_many_3 rfl hl (by decide) rfl (fun ls hl => ?_)
  have L_4 : ∀ (n : Nat) (v3_4 : Int32) (v2_4 : Int32) (H : Heap) (locs : List Loc) (ls : Array Slot), (g 126 0 - v3_4.toInt : Int) < n → 0 ≤ v3_4.toInt ∧ v3_4.toInt ≤ g 126 0 → v2_4.toInt = (cnt v3_4.toInt.toNat (g 132) p1.toInt : Int) → ty_ok (dC, dI) vwCl Γ (TP dA Γ g) sz X H → va_S (ty_A sz) s.heap H locs → lv_has ls 4 [(3, .int v3_4), (2, .int v2_4), (0, .ref h0), (1, .int p1)] → W p l e (headSpec (.code yX9_many cX9_many 4 (Option.some Jvm.ClassFile.FieldType.int) :: AL) ({ frames := 0, cells := 0, slots := 0, locals := 0 })).room s m ([.ref h0, .int p1] : List Value).toArray below meth c H locs 0 0 (MQ below (va_Qi (fun (r : Int32) (u : gh) => u = g ∧ ((r.toInt = (cnt ((g 126) 0).toNat (g 132) p1.toInt : Int)))) (okb dC dI dA sz X Γ) (ty_A sz)) ([.ref h0, .int p1] : List Value).toArray s 0 0 (ty_A sz)) (F0 m 4 ls []) := by
    intro n
    induction n with
    | zero => intro v3_4 v2_4 H locs ls hm hi0 hi1 hG hS hl; exfalso; omega
    | succ n ih_4 =>
      intro v3_4 v2_4 H locs ls hm hi0 hi1 hG hS hl
      refine lv_iload_n hx hb dX9_many_4 rfl (lv_at hl 0 rfl) ?_
      refine lv_aload_n hx hb dX9_many_5 rfl (lv_at hl 2 rfl) ?_
      refine get_X9_26 hx hb hA hown hE hG t_h0 wd_4_156 dX9_many_6 (fun x6 h7 => ?_)
      refine ty_icmp_ge (tgt := 31) hx hb dX9_many_9 (by decide) (fun c9 => ?_) (fun c9 => ?_)
      · skip
        refine lv_iload_n hx hb dX9_many_31 rfl (lv_at hl 1 rfl) ?_
        exact W.iret (v := v2_4) hx hb hr (fun t ht hW => ⟨⟨v2_4, g, rfl, ⟨rfl, (by rw [show (g 126 0).toNat = v3_4.toInt.toNat by omega]; omega)⟩, ok1 ht hG⟩, hS.F ht⟩) hS.2.2 dX9_many_32
      · skip
        refine lv_aload_n hx hb dX9_many_12 rfl (lv_at hl 2 rfl) ?_
        refine get_X9_32 hx hb hA hown hE hG t_h0 wd_4_162 dX9_many_13 (fun b10 (t_b10 : ty Γ b10 132) => ?_)
        refine lv_iload_n hx hb dX9_many_16 rfl (lv_at hl 0 rfl) ?_
        refine ald_mI hx hb hE hG 32 rfl (n := 200) rfl (lo := 0) (hi := 5) rfl rfl t_b10 (by omega) dX9_many_17 (fun j12 x11 h13 h14 h15 => ?_)
        obtain rfl : j12 = v3_4.toInt.toNat := by omega
        replace h14 : x11.toInt = g 132 v3_4.toInt.toNat := h14
        refine lv_iload_n hx hb dX9_many_18 rfl (lv_at hl 3 rfl) ?_
        refine ty_icmp_ne (tgt := 25) hx hb dX9_many_19 (by decide) (fun c16 => ?_) (fun c16 => ?_)
        · skip
          obtain ⟨x17, h18⟩ : ∃ y : Int32, y = v3_4 + Int32.ofInt (1) := ⟨_, rfl⟩
          try have h19 : x17.toInt = v3_4.toInt + (1) := ty_inc h18 (by decide) (by omega) (by omega)
          refine lv_iinc (v := x17) (lv' := [(3, .int x17), (2, .int v2_4), (0, .ref h0), (1, .int p1)]) hx hb dX9_many_25 hl (k := 0) rfl h18.symm (by decide) rfl (fun ls hl => ?_)
          have hc9 := cnt_at (g 132) p1.toInt (i := v3_4) (i' := x17) (by omega) (by omega)
          refine lv_goto (tgt := 4) hx hb dX9_many_28 (by decide) ?_
          exact ih_4 x17 v2_4 _ _ ls (by omega) (by omega) (by omega) hG hS (lv_sub hl [0, 1, 2, 3] rfl)
        · skip
          have hcl := cnt_le v3_4.toInt.toNat (g 132) p1.toInt
          obtain ⟨x20, h21⟩ : ∃ y : Int32, y = v2_4 + Int32.ofInt (1) := ⟨_, rfl⟩
          try have h22 : x20.toInt = v2_4.toInt + (1) := ty_inc h21 (by decide) (by omega) (by omega)
          refine lv_iinc (v := x20) (lv' := [(2, .int x20), (3, .int v3_4), (0, .ref h0), (1, .int p1)]) hx hb dX9_many_22 hl (k := 1) rfl h21.symm (by decide) rfl (fun ls hl => ?_)
          obtain ⟨x23, h24⟩ : ∃ y : Int32, y = v3_4 + Int32.ofInt (1) := ⟨_, rfl⟩
          try have h25 : x23.toInt = v3_4.toInt + (1) := ty_inc h24 (by decide) (by omega) (by omega)
          refine lv_iinc (v := x23) (lv' := [(3, .int x23), (2, .int x20), (0, .ref h0), (1, .int p1)]) hx hb dX9_many_25 hl (k := 1) rfl h24.symm (by decide) rfl (fun ls hl => ?_)
          have hc9 := cnt_at (g 132) p1.toInt (i := v3_4) (i' := x23) (by omega) (by omega)
          refine lv_goto (tgt := 4) hx hb dX9_many_28 (by decide) ?_
          exact ih_4 x23 x20 _ _ ls (by omega) (by omega) (by omega) hG hS (lv_sub hl [0, 1, 2, 3] rfl)
  have hc0 : cnt x3.toInt.toNat (g 132) p1.toInt = 0 := by rw [show x3.toInt.toNat = 0 by omega]; rfl
  exact L_4 ((g 126 0 - x3.toInt) + 1).toNat x3 x1 _ _ ls (by omega) (by omega) (by omega) hG hS (lv_sub hl [0, 1, 2, 3] rfl)

set_option maxHeartbeats 4000000 in
set_option maxRecDepth 100000 in
/-- WeekBankModel.isBound:  -/
theorem k_X9_isBound (l : Launch) (dC : Nat → ClassId) (dI : Nat → Nat → Nat) (dA : Nat → ClassId) (sz : Nat) (X : va_W) (Γ : ty_G) (hU : Un Γ) (g : gh) (h0 : Nat) (t_h0 : ty Γ h0 30) (m22 : 0 ≤ g 122 0 ∧ g 122 0 ≤ 30) : Met l yX9_isBound (.code yX9_isBound cX9_isBound 3 (Option.some Jvm.ClassFile.FieldType.boolean) :: AL) ({ frames := 0, cells := 0, slots := 0, locals := 0 }) (PCx dC dI dA sz X Γ g [.ref h0]) (va_Qi (fun (r : Int32) (u : gh) => u = g ∧ ((r.toInt = 0 ∨ r.toInt = 1) ∧ (r.toInt = hb_f (g 123) ((g 122) 0).toNat))) (okb dC dI dA sz X Γ) (ty_A sz)) 0 0 (ty_A sz) := by
  refine Met.ofW (cc := cX9_isBound) (maxL := 3) (ret := (Option.some Jvm.ClassFile.FieldType.boolean)) (by decide) rfl ?_
  intro p e s m args below meth c s₁ B hml hv
  obtain ⟨rfl, hG, hE⟩ := hv
  have hx := B.exec
  have hb := B.bytes
  have hr := B.returns
  have hts := atoms_spec B.pre
  have hA : ∀ w ∈ AL, w.before _ s = true := fun w h => hts w (List.mem_cons_of_mem _ h)
  have hown : s.vm.findClass RX9 = some m.cls := findClass_of_methodNamed B.named
  have hlocks := B.notSynchronized
  have hS : va_S (ty_A sz) s.heap s.heap [] := va_S.rf
  have hl := lv_entry ([.ref h0]) (n := 3) (Nat.le_of_ble_eq_true rfl)
  rw [lg_entry_eq]
  generalize (lg_sl ([.ref h0]) ++ List.replicate (3 - (lg_sl ([.ref h0])).length) Slot.unset).toArray = ls at hl ⊢
  have hl : lv_has ls 3 [(0, .ref h0)] := hl
  refine ty_iconst hx hb (0) dX9_isBound_0 (by decide) (fun x1 h2 => ?_)
  refine lv_istore_n (lv' := [(1, .int x1), (0, .ref h0)]) hx hb dX9_isBound_1 rfl hl (by decide) rfl (fun ls hl => ?_)
  refine ty_iconst hx hb (0) dX9_isBound_2 (by decide) (fun x3 h4 => ?_)
  refine lv_istore_n (lv' := [(2, .int x3), (1, .int x1), (0, .ref h0)]) hx hb dX9_isBound_3 rfl hl (by decide) rfl (fun ls hl => ?_)
  have L_4 : ∀ (n : Nat) (v2_4 : Int32) (v1_4 : Int32) (H : Heap) (locs : List Loc) (ls : Array Slot), (g 122 0 - v2_4.toInt : Int) < n → 0 ≤ v2_4.toInt ∧ v2_4.toInt ≤ g 122 0 → v1_4.toInt = 0 ∨ v1_4.toInt = 1 → (v1_4.toInt = hb_f (g 123) v2_4.toInt.toNat) → ty_ok (dC, dI) vwCl Γ (TP dA Γ g) sz X H → va_S (ty_A sz) s.heap H locs → lv_has ls 3 [(2, .int v2_4), (1, .int v1_4), (0, .ref h0)] → W p l e (headSpec (.code yX9_isBound cX9_isBound 3 (Option.some Jvm.ClassFile.FieldType.boolean) :: AL) ({ frames := 0, cells := 0, slots := 0, locals := 0 })).room s m ([.ref h0] : List Value).toArray below meth c H locs 0 0 (MQ below (va_Qi (fun (r : Int32) (u : gh) => u = g ∧ ((r.toInt = 0 ∨ r.toInt = 1) ∧ (r.toInt = hb_f (g 123) ((g 122) 0).toNat))) (okb dC dI dA sz X Γ) (ty_A sz)) ([.ref h0] : List Value).toArray s 0 0 (ty_A sz)) (F0 m 4 ls []) := by
    intro n
    induction n with
    | zero => intro v2_4 v1_4 H locs ls hm hi0 hi1 hq0 hG hS hl; exfalso; omega
    | succ n ih_4 =>
      intro v2_4 v1_4 H locs ls hm hi0 hi1 hq0 hG hS hl
      refine lv_iload_n hx hb dX9_isBound_4 rfl (lv_at hl 0 rfl) ?_
      refine lv_aload_n hx hb dX9_isBound_5 rfl (lv_at hl 2 rfl) ?_
      refine get_X9_22 hx hb hA hown hE hG t_h0 wd_4_152 dX9_isBound_6 (fun x6 h7 => ?_)
      refine ty_icmp_ge (tgt := 50) hx hb dX9_isBound_9 (by decide) (fun c9 => ?_) (fun c9 => ?_)
      · skip
        refine lv_iload_n hx hb dX9_isBound_50 rfl (lv_at hl 1 rfl) ?_
        exact W.zret (v := v1_4) hx hb hr (ty_nb (by omega)).1 (fun t ht hW => ⟨⟨v1_4, g, rfl, ⟨rfl, (⟨by omega, by rw [hq0, show v2_4.toInt.toNat = (g 122 0).toNat by omega]⟩)⟩, ok1 ht hG⟩, hS.F ht⟩) hS.2.2 dX9_isBound_51
      · skip
        refine lv_aload_n hx hb dX9_isBound_12 rfl (lv_at hl 2 rfl) ?_
        refine get_X9_23 hx hb hA hown hE hG t_h0 wd_4_153 dX9_isBound_13 (fun b10 (t_b10 : ty Γ b10 123) => ?_)
        refine ty_iconst hx hb (4) dX9_isBound_16 (by decide) (fun x11 h12 => ?_)
        refine lv_iload_n hx hb dX9_isBound_17 rfl (lv_at hl 0 rfl) ?_
        refine ty_imul hx hb dX9_isBound_18 (fun x13 h14 => ?_)
        try have h15 : x13.toInt = 4 * v2_4.toInt := ty_mull h14 (by omega) (by omega) (by omega)
        refine ald_mI hx hb hE hG 23 rfl (n := 120) rfl (lo := -2147483648) (hi := 2147483647) rfl rfl t_b10 (by omega) dX9_isBound_19 (fun j17 x16 h18 h19 h20 => ?_)
        clear h20
        obtain rfl : j17 = x13.toInt.toNat := by omega
        replace h19 : x16.toInt = g 123 x13.toInt.toNat := h19
        replace h19 : x16.toInt = g 123 (4 * v2_4.toInt.toNat) := by rw [h19, show x13.toInt.toNat = (4 * v2_4.toInt.toNat) by omega]
        refine ty_iconst hx hb (3) dX9_isBound_20 (by decide) (fun x21 h22 => ?_)
        refine ty_icmp_ne (tgt := 44) hx hb dX9_isBound_21 (by decide) (fun c23 => ?_) (fun c23 => ?_)
        · skip
          obtain ⟨x24, h25⟩ : ∃ y : Int32, y = v2_4 + Int32.ofInt (1) := ⟨_, rfl⟩
          try have h26 : x24.toInt = v2_4.toInt + (1) := ty_inc h25 (by decide) (by omega) (by omega)
          refine lv_iinc (v := x24) (lv' := [(2, .int x24), (1, .int v1_4), (0, .ref h0)]) hx hb dX9_isBound_44 hl (k := 0) rfl h25.symm (by decide) rfl (fun ls hl => ?_)
          refine lv_goto (tgt := 4) hx hb dX9_isBound_47 (by decide) ?_
          exact ih_4 x24 v1_4 _ _ ls (by omega) (by omega) (by omega) (by rw [show x24.toInt.toNat = v2_4.toInt.toNat + 1 by omega]; show _ = (if _ then _ else _); rw [if_neg (by omega)]; exact hq0) hG hS (lv_sub hl [0, 1, 2] rfl)
        · skip
          refine lv_aload_n hx hb dX9_isBound_24 rfl (lv_at hl 2 rfl) ?_
          refine get_X9_23 hx hb hA hown hE hG t_h0 wd_4_153 dX9_isBound_25 (fun b27 (t_b27 : ty Γ b27 123) => ?_)
          refine ty_iconst hx hb (4) dX9_isBound_28 (by decide) (fun x28 h29 => ?_)
          refine lv_iload_n hx hb dX9_isBound_29 rfl (lv_at hl 0 rfl) ?_
          refine ty_imul hx hb dX9_isBound_30 (fun x30 h31 => ?_)
          try have h32 : x30.toInt = 4 * v2_4.toInt := ty_mull h31 (by omega) (by omega) (by omega)
          refine ty_iconst hx hb (1) dX9_isBound_31 (by decide) (fun x33 h34 => ?_)
          refine ty_iadd hx hb dX9_isBound_32 (fun x35 h36 => ?_)
          try have h37 : x35.toInt = x30.toInt + x33.toInt := ty_add h36 (by omega) (by omega)
          refine ald_mI hx hb hE hG 23 rfl (n := 120) rfl (lo := -2147483648) (hi := 2147483647) rfl rfl t_b27 (by omega) dX9_isBound_33 (fun j39 x38 h40 h41 h42 => ?_)
          clear h42
          obtain rfl : j39 = x35.toInt.toNat := by omega
          replace h41 : x38.toInt = g 123 x35.toInt.toNat := h41
          replace h41 : x38.toInt = g 123 (4 * v2_4.toInt.toNat + 1) := by rw [h41, show x35.toInt.toNat = (4 * v2_4.toInt.toNat + 1) by omega]
          refine ty_iconst hx hb (1) dX9_isBound_34 (by decide) (fun x43 h44 => ?_)
          refine ty_icmp_ne (tgt := 42) hx hb dX9_isBound_35 (by decide) (fun c45 => ?_) (fun c45 => ?_)
          · skip
            refine ty_iconst hx hb (0) dX9_isBound_42 (by decide) (fun x46 h47 => ?_)
            refine lv_istore_n (lv' := [(1, .int x46), (2, .int v2_4), (0, .ref h0)]) hx hb dX9_isBound_43 rfl hl (by decide) rfl (fun ls hl => ?_)
            obtain ⟨x48, h49⟩ : ∃ y : Int32, y = v2_4 + Int32.ofInt (1) := ⟨_, rfl⟩
            try have h50 : x48.toInt = v2_4.toInt + (1) := ty_inc h49 (by decide) (by omega) (by omega)
            refine lv_iinc (v := x48) (lv' := [(2, .int x48), (1, .int x46), (0, .ref h0)]) hx hb dX9_isBound_44 hl (k := 1) rfl h49.symm (by decide) rfl (fun ls hl => ?_)
            refine lv_goto (tgt := 4) hx hb dX9_isBound_47 (by decide) ?_
            exact ih_4 x48 x46 _ _ ls (by omega) (by omega) (by omega) (by rw [show x48.toInt.toNat = v2_4.toInt.toNat + 1 by omega]; show _ = (if _ then _ else _); rw [if_pos (by omega), if_neg (by omega)]; omega) hG hS (lv_sub hl [0, 1, 2] rfl)
          · skip
            refine ty_iconst hx hb (1) dX9_isBound_38 (by decide) (fun x51 h52 => ?_)
            refine lv_goto (tgt := 43) hx hb dX9_isBound_39 (by decide) ?_
            refine lv_istore_n (lv' := [(1, .int x51), (2, .int v2_4), (0, .ref h0)]) hx hb dX9_isBound_43 rfl hl (by decide) rfl (fun ls hl => ?_)
            obtain ⟨x53, h54⟩ : ∃ y : Int32, y = v2_4 + Int32.ofInt (1) := ⟨_, rfl⟩
            try have h55 : x53.toInt = v2_4.toInt + (1) := ty_inc h54 (by decide) (by omega) (by omega)
            refine lv_iinc (v := x53) (lv' := [(2, .int x53), (1, .int x51), (0, .ref h0)]) hx hb dX9_isBound_44 hl (k := 1) rfl h54.symm (by decide) rfl (fun ls hl => ?_)
            refine lv_goto (tgt := 4) hx hb dX9_isBound_47 (by decide) ?_
            exact ih_4 x53 x51 _ _ ls (by omega) (by omega) (by omega) (by rw [show x53.toInt.toNat = v2_4.toInt.toNat + 1 by omega]; show _ = (if _ then _ else _); rw [if_pos (by omega), if_pos (by omega)]; omega) hG hS (lv_sub hl [0, 1, 2] rfl)
  exact L_4 ((g 122 0 - x3.toInt) + 1).toNat x3 x1 _ _ ls (by omega) (by omega) (by omega) (by rw [show x3.toInt.toNat = 0 by omega]; show _ = (0 : Int); omega) hG hS (lv_sub hl [0, 1, 2] rfl)

set_option maxHeartbeats 4000000 in
set_option maxRecDepth 100000 in
/-- WeekBankModel.worthOf:  -/
theorem k_X9_worthOf (l : Launch) (dC : Nat → ClassId) (dI : Nat → Nat → Nat) (dA : Nat → ClassId) (sz : Nat) (X : va_W) (Γ : ty_G) (hU : Un Γ) (g : gh) (h0 : Nat) (t_h0 : ty Γ h0 30) (p1 : Int32) (p2 : Int32) (m22 : 0 ≤ g 122 0 ∧ g 122 0 ≤ 30) (m12 : 0 ≤ g 112 0 ∧ g 112 0 ≤ 52) (hf : 0 ≤ p1.toInt ∧ p1.toInt ≤ 5 ∧ 0 ≤ p2.toInt ∧ p2.toInt ≤ 52) : Met l yX9_worthOf (.code yX9_worthOf cX9_worthOf 10 (Option.some Jvm.ClassFile.FieldType.int) :: AL) ({ frames := 1, cells := 0, slots := 0, locals := 22 }) (PCx dC dI dA sz X Γ g [.ref h0, .int p1, .int p2]) (va_Qi (fun (r : Int32) (u : gh) => u = g ∧ ((r.toInt = wm_w (g 123) p2.toInt ((g 103) p1.toInt.toNat) (p2.toInt - (g 112) 0) ((g 122) 0).toNat))) (okb dC dI dA sz X Γ) (ty_A sz)) 0 0 (ty_A sz) := by
  refine Met.ofW (cc := cX9_worthOf) (maxL := 10) (ret := (Option.some Jvm.ClassFile.FieldType.int)) (by decide) rfl ?_
  intro p e s m args below meth c s₁ B hml hv
  obtain ⟨rfl, hG, hE⟩ := hv
  have hx := B.exec
  have hb := B.bytes
  have hr := B.returns
  have hts := atoms_spec B.pre
  have hA : ∀ w ∈ AL, w.before _ s = true := fun w h => hts w (List.mem_cons_of_mem _ h)
  have hown : s.vm.findClass RX9 = some m.cls := findClass_of_methodNamed B.named
  have hlocks := B.notSynchronized
  have hS : va_S (ty_A sz) s.heap s.heap [] := va_S.rf
  have hl := lv_entry ([.ref h0, .int p1, .int p2]) (n := 10) (Nat.le_of_ble_eq_true rfl)
  rw [lg_entry_eq]
  generalize (lg_sl ([.ref h0, .int p1, .int p2]) ++ List.replicate (10 - (lg_sl ([.ref h0, .int p1, .int p2])).length) Slot.unset).toArray = ls at hl ⊢
  have hl : lv_has ls 10 [(0, .ref h0), (1, .int p1), (2, .int p2)] := hl
  refine ty_iconst hx hb (0) dX9_worthOf_0 (by decide) (fun x1 h2 => ?_)
  refine lv_istore_n (lv' := [(3, .int x1), (0, .ref h0), (1, .int p1), (2, .int p2)]) hx hb dX9_worthOf_1 rfl hl (by decide) rfl (fun ls hl => ?_)
  refine ty_iconst hx hb (0) dX9_worthOf_2 (by decide) (fun x3 h4 => ?_)
  refine lv_istore (lv' := [(4, .int x3), (3, .int x1), (0, .ref h0), (1, .int p1), (2, .int p2)]) hx hb dX9_worthOf_3 hl (by decide) rfl (fun ls hl => ?_)
  refine ty_iconst hx hb (0) dX9_worthOf_5 (by decide) (fun x5 h6 => ?_)
  refine lv_istore (lv' := [(5, .int x5), (4, .int x3), (3, .int x1), (0, .ref h0), (1, .int p1), (2, .int p2)]) hx hb dX9_worthOf_6 hl (by decide) rfl (fun ls hl => ?_)
  refine ty_iconst hx hb (-1) dX9_worthOf_8 (by decide) (fun x7 h8 => ?_)
  refine lv_istore (lv' := [(6, .int x7), (5, .int x5), (4, .int x3), (3, .int x1), (0, .ref h0), (1, .int p1), (2, .int p2)]) hx hb dX9_worthOf_9 hl (by decide) rfl (fun ls hl => ?_)
  refine ty_iconst hx hb (0) dX9_worthOf_11 (by decide) (fun x9 h10 => ?_)
  refine lv_istore (lv' := [(7, .int x9), (6, .int x7), (5, .int x5), (4, .int x3), (3, .int x1), (0, .ref h0), (1, .int p1), (2, .int p2)]) hx hb dX9_worthOf_12 hl (by decide) rfl (fun ls hl => ?_)
  have L_14 : ∀ (n : Nat) (v7_14 : Int32) (v6_14 : Int32) (v5_14 : Int32) (v4_14 : Int32) (v3_14 : Int32) (H : Heap) (locs : List Loc) (ls : Array Slot), (g 122 0 - v7_14.toInt : Int) < n → 0 ≤ v7_14.toInt ∧ v7_14.toInt ≤ g 122 0 → (v3_14.toInt = (wm_f (g 123) p2.toInt (g 103 p1.toInt.toNat) (p2.toInt - g 112 0) v7_14.toInt.toNat).1 ∧ v4_14.toInt = (wm_f (g 123) p2.toInt (g 103 p1.toInt.toNat) (p2.toInt - g 112 0) v7_14.toInt.toNat).2.1 ∧ v5_14.toInt = (wm_f (g 123) p2.toInt (g 103 p1.toInt.toNat) (p2.toInt - g 112 0) v7_14.toInt.toNat).2.2.1 ∧ v6_14.toInt = (wm_f (g 123) p2.toInt (g 103 p1.toInt.toNat) (p2.toInt - g 112 0) v7_14.toInt.toNat).2.2.2) → ty_ok (dC, dI) vwCl Γ (TP dA Γ g) sz X H → va_S (ty_A sz) s.heap H locs → lv_has ls 10 [(7, .int v7_14), (6, .int v6_14), (5, .int v5_14), (4, .int v4_14), (3, .int v3_14), (0, .ref h0), (1, .int p1), (2, .int p2)] → W p l e (headSpec (.code yX9_worthOf cX9_worthOf 10 (Option.some Jvm.ClassFile.FieldType.int) :: AL) ({ frames := 1, cells := 0, slots := 0, locals := 22 })).room s m ([.ref h0, .int p1, .int p2] : List Value).toArray below meth c H locs 0 0 (MQ below (va_Qi (fun (r : Int32) (u : gh) => u = g ∧ ((r.toInt = wm_w (g 123) p2.toInt ((g 103) p1.toInt.toNat) (p2.toInt - (g 112) 0) ((g 122) 0).toNat))) (okb dC dI dA sz X Γ) (ty_A sz)) ([.ref h0, .int p1, .int p2] : List Value).toArray s 0 0 (ty_A sz)) (F0 m 14 ls []) := by
    intro n
    induction n with
    | zero => intro v7_14 v6_14 v5_14 v4_14 v3_14 H locs ls hm hi0 hq0 hG hS hl; exfalso; omega
    | succ n ih_14 =>
      intro v7_14 v6_14 v5_14 v4_14 v3_14 H locs ls hm hi0 hq0 hG hS hl
      refine lv_iload hx hb dX9_worthOf_14 (lv_at hl 0 rfl) ?_
      refine lv_aload_n hx hb dX9_worthOf_16 rfl (lv_at hl 5 rfl) ?_
      refine get_X9_22 hx hb hA hown hE hG t_h0 wd_4_152 dX9_worthOf_17 (fun x12 h13 => ?_)
      refine ty_icmp_ge (tgt := 163) hx hb dX9_worthOf_20 (by decide) (fun c15 => ?_) (fun c15 => ?_)
      · skip
        refine lv_iload_n hx hb dX9_worthOf_163 rfl (lv_at hl 4 rfl) ?_
        refine lv_iload hx hb dX9_worthOf_164 (lv_at hl 3 rfl) ?_
        refine ty_iadd hx hb dX9_worthOf_166 (fun x16 h17 => ?_)
        have h18 : x16.toInt = wa (v3_14.toInt) (v4_14.toInt) := by rw [ty_wa h17]
        refine lv_iload hx hb dX9_worthOf_167 (lv_at hl 2 rfl) ?_
        refine ty_iadd hx hb dX9_worthOf_169 (fun x19 h20 => ?_)
        have h21 : x19.toInt = wa (wa (v3_14.toInt) (v4_14.toInt)) (v5_14.toInt) := by rw [ty_wa h20, h18]
        exact W.iret (v := x19) hx hb hr (fun t ht hW => ⟨⟨x19, g, rfl, ⟨rfl, (by unfold wm_w; rw [h21, hq0.1, hq0.2.1, hq0.2.2.1, show v7_14.toInt.toNat = (g 122 0).toNat by omega])⟩, ok1 ht hG⟩, hS.F ht⟩) hS.2.2 dX9_worthOf_170
      · skip
        refine lv_aload_n hx hb dX9_worthOf_23 rfl (lv_at hl 5 rfl) ?_
        refine get_X9_23 hx hb hA hown hE hG t_h0 wd_4_153 dX9_worthOf_24 (fun b22 (t_b22 : ty Γ b22 123) => ?_)
        refine ty_iconst hx hb (4) dX9_worthOf_27 (by decide) (fun x23 h24 => ?_)
        refine lv_iload hx hb dX9_worthOf_28 (lv_at hl 0 rfl) ?_
        refine ty_imul hx hb dX9_worthOf_30 (fun x25 h26 => ?_)
        try have h27 : x25.toInt = 4 * v7_14.toInt := ty_mull h26 (by omega) (by omega) (by omega)
        refine ty_iconst hx hb (1) dX9_worthOf_31 (by decide) (fun x28 h29 => ?_)
        refine ty_iadd hx hb dX9_worthOf_32 (fun x30 h31 => ?_)
        try have h32 : x30.toInt = x25.toInt + x28.toInt := ty_add h31 (by omega) (by omega)
        refine ald_mI hx hb hE hG 23 rfl (n := 120) rfl (lo := -2147483648) (hi := 2147483647) rfl rfl t_b22 (by omega) dX9_worthOf_33 (fun j34 x33 h35 h36 h37 => ?_)
        clear h37
        obtain rfl : j34 = x30.toInt.toNat := by omega
        replace h36 : x33.toInt = g 123 x30.toInt.toNat := h36
        replace h36 : x33.toInt = g 123 (4 * v7_14.toInt.toNat + 1) := by rw [h36, show x30.toInt.toNat = (4 * v7_14.toInt.toNat + 1) by omega]
        refine lv_istore (lv' := [(8, .int x33), (7, .int v7_14), (6, .int v6_14), (5, .int v5_14), (4, .int v4_14), (3, .int v3_14), (0, .ref h0), (1, .int p1), (2, .int p2)]) hx hb dX9_worthOf_34 hl (by decide) rfl (fun ls hl => ?_)
        refine lv_aload_n hx hb dX9_worthOf_36 rfl (lv_at hl 6 rfl) ?_
        refine get_X9_23 hx hb hA hown hE hG t_h0 wd_4_153 dX9_worthOf_37 (fun b38 (t_b38 : ty Γ b38 123) => ?_)
        refine ty_iconst hx hb (4) dX9_worthOf_40 (by decide) (fun x39 h40 => ?_)
        refine lv_iload hx hb dX9_worthOf_41 (lv_at hl 1 rfl) ?_
        refine ty_imul hx hb dX9_worthOf_43 (fun x41 h42 => ?_)
        try have h43 : x41.toInt = 4 * v7_14.toInt := ty_mull h42 (by omega) (by omega) (by omega)
        refine ty_iconst hx hb (2) dX9_worthOf_44 (by decide) (fun x44 h45 => ?_)
        refine ty_iadd hx hb dX9_worthOf_45 (fun x46 h47 => ?_)
        try have h48 : x46.toInt = x41.toInt + x44.toInt := ty_add h47 (by omega) (by omega)
        refine ald_mI hx hb hE hG 23 rfl (n := 120) rfl (lo := -2147483648) (hi := 2147483647) rfl rfl t_b38 (by omega) dX9_worthOf_46 (fun j50 x49 h51 h52 h53 => ?_)
        clear h53
        obtain rfl : j50 = x46.toInt.toNat := by omega
        replace h52 : x49.toInt = g 123 x46.toInt.toNat := h52
        replace h52 : x49.toInt = g 123 (4 * v7_14.toInt.toNat + 2) := by rw [h52, show x46.toInt.toNat = (4 * v7_14.toInt.toNat + 2) by omega]
        refine lv_istore (lv' := [(9, .int x49), (8, .int x33), (7, .int v7_14), (6, .int v6_14), (5, .int v5_14), (4, .int v4_14), (3, .int v3_14), (0, .ref h0), (1, .int p1), (2, .int p2)]) hx hb dX9_worthOf_47 hl (by decide) rfl (fun ls hl => ?_)
        refine lv_aload_n hx hb dX9_worthOf_49 rfl (lv_at hl 7 rfl) ?_
        refine get_X9_23 hx hb hA hown hE hG t_h0 wd_4_153 dX9_worthOf_50 (fun b54 (t_b54 : ty Γ b54 123) => ?_)
        refine ty_iconst hx hb (4) dX9_worthOf_53 (by decide) (fun x55 h56 => ?_)
        refine lv_iload hx hb dX9_worthOf_54 (lv_at hl 2 rfl) ?_
        refine ty_imul hx hb dX9_worthOf_56 (fun x57 h58 => ?_)
        try have h59 : x57.toInt = 4 * v7_14.toInt := ty_mull h58 (by omega) (by omega) (by omega)
        refine ald_mI hx hb hE hG 23 rfl (n := 120) rfl (lo := -2147483648) (hi := 2147483647) rfl rfl t_b54 (by omega) dX9_worthOf_57 (fun j61 x60 h62 h63 h64 => ?_)
        clear h64
        obtain rfl : j61 = x57.toInt.toNat := by omega
        replace h63 : x60.toInt = g 123 x57.toInt.toNat := h63
        replace h63 : x60.toInt = g 123 (4 * v7_14.toInt.toNat) := by rw [h63, show x57.toInt.toNat = (4 * v7_14.toInt.toNat) by omega]
        by_cases c65 : x60.toInt < 0 ∨ 2 < x60.toInt
        · skip
          refine lv_tableOut (tgt := 157) hx hb dX9_worthOf_58 c65 (by decide) ?_
          obtain ⟨x66, h67⟩ : ∃ y : Int32, y = v7_14 + Int32.ofInt (1) := ⟨_, rfl⟩
          try have h68 : x66.toInt = v7_14.toInt + (1) := ty_inc h67 (by decide) (by omega) (by omega)
          refine lv_iinc (v := x66) (lv' := [(7, .int x66), (9, .int x49), (8, .int x33), (6, .int v6_14), (5, .int v5_14), (4, .int v4_14), (3, .int v3_14), (0, .ref h0), (1, .int p1), (2, .int p2)]) hx hb dX9_worthOf_157 hl (k := 2) rfl h67.symm (by decide) rfl (fun ls hl => ?_)
          refine lv_goto (tgt := 14) hx hb dX9_worthOf_160 (by decide) ?_
          exact ih_14 x66 v6_14 v5_14 v4_14 v3_14 _ _ ls (by omega) (by omega) (wm_gn (wm_3 (by omega)) (by omega) hq0) hG hS (lv_sub hl [0, 3, 4, 5, 6, 7, 8, 9] rfl)
        · skip
          rcases (show x60.toInt = 0 ∨ x60.toInt = 1 ∨ x60.toInt = 2 by omega) with q69 | q70 | q71
          · skip
            refine lv_tableIn (tgt := 84) (off := 26) hx hb dX9_worthOf_58 (by omega) (by omega) (by rw [q69]; rfl) (by decide) ?_
            refine lv_iload_n hx hb dX9_worthOf_84 rfl (lv_at hl 9 rfl) ?_
            refine lv_iload hx hb dX9_worthOf_85 (lv_at hl 1 rfl) ?_
            refine lv_iload hx hb dX9_worthOf_87 (lv_at hl 0 rfl) ?_
            refine cI (va_runS (As := [.int p2, .int x33, .int x49]) (rest := []) ⟨hx, hb, hml, hown, hA⟩ (k_X9_within l dC dI dA sz X Γ hU g p2 x33 x49   ) ⟨callB_of 3 hA (al_A wd_5_38) rfl rfl rfl (hA _ wd_1_7) (hA _ wd_5_36) (by decide +kernel) ⟨Nat.le_of_ble_eq_true rfl, Nat.le_of_ble_eq_true rfl⟩, hA _ wd_5_37⟩ ⟨bl, fun U hU9 hW9 => ⟨rfl, by rw [hU9]; exact hG, hE.go hS hU9 hW9⟩⟩ rfl rfl hl.1 rfl (lv_room (Nat.le_of_ble_eq_true rfl)) dX9_worthOf_89 ⟨Nat.zero_le _, Nat.zero_le _⟩) hS (fun x74 u72 H locs w73 hG hS => ?_)
            obtain ⟨eu75, w73⟩ := w73
            rw [eu75] at hG
            refine ty_if_eq (tgt := 157) hx hb dX9_worthOf_92 (by decide) (fun c76 => ?_) (fun c76 => ?_)
            · skip
              obtain ⟨x77, h78⟩ : ∃ y : Int32, y = v7_14 + Int32.ofInt (1) := ⟨_, rfl⟩
              try have h79 : x77.toInt = v7_14.toInt + (1) := ty_inc h78 (by decide) (by omega) (by omega)
              refine lv_iinc (v := x77) (lv' := [(7, .int x77), (9, .int x49), (8, .int x33), (6, .int v6_14), (5, .int v5_14), (4, .int v4_14), (3, .int v3_14), (0, .ref h0), (1, .int p1), (2, .int p2)]) hx hb dX9_worthOf_157 hl (k := 2) rfl h78.symm (by decide) rfl (fun ls hl => ?_)
              refine lv_goto (tgt := 14) hx hb dX9_worthOf_160 (by decide) ?_
              exact ih_14 x77 v6_14 v5_14 v4_14 v3_14 _ _ ls (by omega) (by omega) (wm_gn (wm_0n (by omega) (by omega)) (by omega) hq0) hG hS (lv_sub hl [0, 3, 4, 5, 6, 7, 8, 9] rfl)
            · skip
              refine lv_aload_n hx hb dX9_worthOf_95 rfl (lv_at hl 7 rfl) ?_
              refine get_X9_23 hx hb hA hown hE hG t_h0 wd_4_153 dX9_worthOf_96 (fun b80 (t_b80 : ty Γ b80 123) => ?_)
              refine ty_iconst hx hb (4) dX9_worthOf_99 (by decide) (fun x81 h82 => ?_)
              refine lv_iload hx hb dX9_worthOf_100 (lv_at hl 2 rfl) ?_
              refine ty_imul hx hb dX9_worthOf_102 (fun x83 h84 => ?_)
              try have h85 : x83.toInt = 4 * v7_14.toInt := ty_mull h84 (by omega) (by omega) (by omega)
              refine ty_iconst hx hb (3) dX9_worthOf_103 (by decide) (fun x86 h87 => ?_)
              refine ty_iadd hx hb dX9_worthOf_104 (fun x88 h89 => ?_)
              try have h90 : x88.toInt = x83.toInt + x86.toInt := ty_add h89 (by omega) (by omega)
              refine ald_mI hx hb hE hG 23 rfl (n := 120) rfl (lo := -2147483648) (hi := 2147483647) rfl rfl t_b80 (by omega) dX9_worthOf_105 (fun j92 x91 h93 h94 h95 => ?_)
              clear h95
              obtain rfl : j92 = x88.toInt.toNat := by omega
              replace h94 : x91.toInt = g 123 x88.toInt.toNat := h94
              replace h94 : x91.toInt = g 123 (4 * v7_14.toInt.toNat + 3) := by rw [h94, show x88.toInt.toNat = (4 * v7_14.toInt.toNat + 3) by omega]
              refine lv_istore_n (lv' := [(3, .int x91), (9, .int x49), (8, .int x33), (7, .int v7_14), (6, .int v6_14), (5, .int v5_14), (4, .int v4_14), (0, .ref h0), (1, .int p1), (2, .int p2)]) hx hb dX9_worthOf_106 rfl hl (by decide) rfl (fun ls hl => ?_)
              refine lv_goto (tgt := 157) hx hb dX9_worthOf_107 (by decide) ?_
              obtain ⟨x96, h97⟩ : ∃ y : Int32, y = v7_14 + Int32.ofInt (1) := ⟨_, rfl⟩
              try have h98 : x96.toInt = v7_14.toInt + (1) := ty_inc h97 (by decide) (by omega) (by omega)
              refine lv_iinc (v := x96) (lv' := [(7, .int x96), (3, .int x91), (9, .int x49), (8, .int x33), (6, .int v6_14), (5, .int v5_14), (4, .int v4_14), (0, .ref h0), (1, .int p1), (2, .int p2)]) hx hb dX9_worthOf_157 hl (k := 3) rfl h97.symm (by decide) rfl (fun ls hl => ?_)
              refine lv_goto (tgt := 14) hx hb dX9_worthOf_160 (by decide) ?_
              exact ih_14 x96 v6_14 v5_14 v4_14 x91 _ _ ls (by omega) (by omega) (wm_g0 (by omega) (by omega) (by omega) hq0 (by omega)) hG hS (lv_sub hl [0, 4, 5, 6, 1, 7, 8, 9] rfl)
          · skip
            refine lv_tableIn (tgt := 110) (off := 52) hx hb dX9_worthOf_58 (by omega) (by omega) (by rw [q70]; rfl) (by decide) ?_
            refine lv_iload hx hb dX9_worthOf_110 (lv_at hl 1 rfl) ?_
            refine lv_aload_n hx hb dX9_worthOf_112 rfl (lv_at hl 7 rfl) ?_
            refine get_X9_3 hx hb hA hown hE hG t_h0 wd_4_133 dX9_worthOf_113 (fun b99 (t_b99 : ty Γ b99 103) => ?_)
            refine lv_iload_n hx hb dX9_worthOf_116 rfl (lv_at hl 8 rfl) ?_
            refine ald_mI hx hb hE hG 3 rfl (n := 6) rfl (lo := -2147483648) (hi := 2147483647) rfl rfl t_b99 (by omega) dX9_worthOf_117 (fun j101 x100 h102 h103 h104 => ?_)
            clear h104
            obtain rfl : j101 = p1.toInt.toNat := by omega
            replace h103 : x100.toInt = g 103 p1.toInt.toNat := h103
            refine ty_icmp_ne (tgt := 157) hx hb dX9_worthOf_118 (by decide) (fun c105 => ?_) (fun c105 => ?_)
            · skip
              obtain ⟨x106, h107⟩ : ∃ y : Int32, y = v7_14 + Int32.ofInt (1) := ⟨_, rfl⟩
              try have h108 : x106.toInt = v7_14.toInt + (1) := ty_inc h107 (by decide) (by omega) (by omega)
              refine lv_iinc (v := x106) (lv' := [(7, .int x106), (9, .int x49), (8, .int x33), (6, .int v6_14), (5, .int v5_14), (4, .int v4_14), (3, .int v3_14), (0, .ref h0), (1, .int p1), (2, .int p2)]) hx hb dX9_worthOf_157 hl (k := 2) rfl h107.symm (by decide) rfl (fun ls hl => ?_)
              refine lv_goto (tgt := 14) hx hb dX9_worthOf_160 (by decide) ?_
              exact ih_14 x106 v6_14 v5_14 v4_14 v3_14 _ _ ls (by omega) (by omega) (wm_gn (wm_1n (by omega) (by omega)) (by omega) hq0) hG hS (lv_sub hl [0, 3, 4, 5, 6, 7, 8, 9] rfl)
            · skip
              refine lv_iload hx hb dX9_worthOf_121 (lv_at hl 0 rfl) ?_
              refine lv_istore (lv' := [(4, .int x49), (9, .int x49), (8, .int x33), (7, .int v7_14), (6, .int v6_14), (5, .int v5_14), (3, .int v3_14), (0, .ref h0), (1, .int p1), (2, .int p2)]) hx hb dX9_worthOf_123 hl (by decide) rfl (fun ls hl => ?_)
              refine lv_goto (tgt := 157) hx hb dX9_worthOf_125 (by decide) ?_
              obtain ⟨x109, h110⟩ : ∃ y : Int32, y = v7_14 + Int32.ofInt (1) := ⟨_, rfl⟩
              try have h111 : x109.toInt = v7_14.toInt + (1) := ty_inc h110 (by decide) (by omega) (by omega)
              refine lv_iinc (v := x109) (lv' := [(7, .int x109), (4, .int x49), (9, .int x49), (8, .int x33), (6, .int v6_14), (5, .int v5_14), (3, .int v3_14), (0, .ref h0), (1, .int p1), (2, .int p2)]) hx hb dX9_worthOf_157 hl (k := 3) rfl h110.symm (by decide) rfl (fun ls hl => ?_)
              refine lv_goto (tgt := 14) hx hb dX9_worthOf_160 (by decide) ?_
              exact ih_14 x109 v6_14 v5_14 x49 v3_14 _ _ ls (by omega) (by omega) (wm_g1 (by omega) (by omega) (by omega) hq0 (by omega)) hG hS (lv_sub hl [0, 4, 5, 1, 6, 7, 8, 9] rfl)
          · skip
            refine lv_tableIn (tgt := 128) (off := 70) hx hb dX9_worthOf_58 (by omega) (by omega) (by rw [q71]; rfl) (by decide) ?_
            refine lv_iload hx hb dX9_worthOf_128 (lv_at hl 1 rfl) ?_
            refine lv_iload_n hx hb dX9_worthOf_130 rfl (lv_at hl 9 rfl) ?_
            refine lv_aload_n hx hb dX9_worthOf_131 rfl (lv_at hl 7 rfl) ?_
            refine get_X9_12 hx hb hA hown hE hG t_h0 wd_4_142 dX9_worthOf_132 (fun x112 h113 => ?_)
            refine ty_isub hx hb dX9_worthOf_135 (fun x115 h116 => ?_)
            try have h117 : x115.toInt = p2.toInt - x112.toInt := ty_sub h116 (by omega) (by omega)
            refine ty_icmp_gt (tgt := 157) hx hb dX9_worthOf_136 (by decide) (fun c118 => ?_) (fun c118 => ?_)
            · skip
              obtain ⟨x119, h120⟩ : ∃ y : Int32, y = v7_14 + Int32.ofInt (1) := ⟨_, rfl⟩
              try have h121 : x119.toInt = v7_14.toInt + (1) := ty_inc h120 (by decide) (by omega) (by omega)
              refine lv_iinc (v := x119) (lv' := [(7, .int x119), (9, .int x49), (8, .int x33), (6, .int v6_14), (5, .int v5_14), (4, .int v4_14), (3, .int v3_14), (0, .ref h0), (1, .int p1), (2, .int p2)]) hx hb dX9_worthOf_157 hl (k := 2) rfl h120.symm (by decide) rfl (fun ls hl => ?_)
              refine lv_goto (tgt := 14) hx hb dX9_worthOf_160 (by decide) ?_
              exact ih_14 x119 v6_14 v5_14 v4_14 v3_14 _ _ ls (by omega) (by omega) (wm_gn (wm_2n (by omega) (by rw [← hq0.2.2.2]; omega)) (by omega) hq0) hG hS (lv_sub hl [0, 3, 4, 5, 6, 7, 8, 9] rfl)
            · skip
              refine lv_iload hx hb dX9_worthOf_139 (lv_at hl 1 rfl) ?_
              refine lv_iload hx hb dX9_worthOf_141 (lv_at hl 3 rfl) ?_
              refine ty_icmp_lt (tgt := 157) hx hb dX9_worthOf_143 (by decide) (fun c122 => ?_) (fun c122 => ?_)
              · skip
                obtain ⟨x123, h124⟩ : ∃ y : Int32, y = v7_14 + Int32.ofInt (1) := ⟨_, rfl⟩
                try have h125 : x123.toInt = v7_14.toInt + (1) := ty_inc h124 (by decide) (by omega) (by omega)
                refine lv_iinc (v := x123) (lv' := [(7, .int x123), (9, .int x49), (8, .int x33), (6, .int v6_14), (5, .int v5_14), (4, .int v4_14), (3, .int v3_14), (0, .ref h0), (1, .int p1), (2, .int p2)]) hx hb dX9_worthOf_157 hl (k := 2) rfl h124.symm (by decide) rfl (fun ls hl => ?_)
                refine lv_goto (tgt := 14) hx hb dX9_worthOf_160 (by decide) ?_
                exact ih_14 x123 v6_14 v5_14 v4_14 v3_14 _ _ ls (by omega) (by omega) (wm_gn (wm_2n (by omega) (by rw [← hq0.2.2.2]; omega)) (by omega) hq0) hG hS (lv_sub hl [0, 3, 4, 5, 6, 7, 8, 9] rfl)
              · skip
                refine lv_iload hx hb dX9_worthOf_146 (lv_at hl 1 rfl) ?_
                refine lv_istore (lv' := [(6, .int x33), (9, .int x49), (8, .int x33), (7, .int v7_14), (5, .int v5_14), (4, .int v4_14), (3, .int v3_14), (0, .ref h0), (1, .int p1), (2, .int p2)]) hx hb dX9_worthOf_148 hl (by decide) rfl (fun ls hl => ?_)
                refine lv_iload hx hb dX9_worthOf_150 (lv_at hl 1 rfl) ?_
                refine lv_istore (lv' := [(5, .int x49), (6, .int x33), (9, .int x49), (8, .int x33), (7, .int v7_14), (4, .int v4_14), (3, .int v3_14), (0, .ref h0), (1, .int p1), (2, .int p2)]) hx hb dX9_worthOf_152 hl (by decide) rfl (fun ls hl => ?_)
                refine lv_goto (tgt := 157) hx hb dX9_worthOf_154 (by decide) ?_
                obtain ⟨x126, h127⟩ : ∃ y : Int32, y = v7_14 + Int32.ofInt (1) := ⟨_, rfl⟩
                try have h128 : x126.toInt = v7_14.toInt + (1) := ty_inc h127 (by decide) (by omega) (by omega)
                refine lv_iinc (v := x126) (lv' := [(7, .int x126), (5, .int x49), (6, .int x33), (9, .int x49), (8, .int x33), (4, .int v4_14), (3, .int v3_14), (0, .ref h0), (1, .int p1), (2, .int p2)]) hx hb dX9_worthOf_157 hl (k := 4) rfl h127.symm (by decide) rfl (fun ls hl => ?_)
                refine lv_goto (tgt := 14) hx hb dX9_worthOf_160 (by decide) ?_
                exact ih_14 x126 x33 x49 v4_14 v3_14 _ _ ls (by omega) (by omega) (wm_g2 (by omega) (by omega) (by omega) hq0 (by omega) (by omega)) hG hS (lv_sub hl [0, 2, 1, 5, 6, 7, 8, 9] rfl)
  exact L_14 ((g 122 0 - x9.toInt) + 1).toNat x9 x7 x5 x3 x1 _ _ ls (by omega) (by omega) (by rw [show x9.toInt.toNat = 0 by omega]; exact ⟨(show _ = (0 : Int) by omega), (show _ = (0 : Int) by omega), (show _ = (0 : Int) by omega), (show _ = (-1 : Int) by omega)⟩) hG hS (lv_sub hl [0, 1, 2, 3, 4, 5, 6, 7] rfl)

set_option maxHeartbeats 4000000 in
set_option maxRecDepth 100000 in
/-- WeekBankModel.worth:  -/
theorem k_X9_worth (l : Launch) (dC : Nat → ClassId) (dI : Nat → Nat → Nat) (dA : Nat → ClassId) (sz : Nat) (X : va_W) (Γ : ty_G) (hU : Un Γ) (g : gh) (h0 : Nat) (t_h0 : ty Γ h0 30) (p1 : Int32) (p2 : Int32) (m1 : 0 ≤ g 101 0 ∧ g 101 0 ≤ 6) (m22 : 0 ≤ g 122 0 ∧ g 122 0 ≤ 30) (m12 : 0 ≤ g 112 0 ∧ g 112 0 ≤ 52) : Met l yX9_worth (.code yX9_worth cX9_worth 3 (Option.some Jvm.ClassFile.FieldType.int) :: AL) ({ frames := 2, cells := 0, slots := 0, locals := 51 }) (PCx dC dI dA sz X Γ g [.ref h0, .int p1, .int p2]) (va_Qi (fun (r : Int32) (u : gh) => (∀ c j : Nat, c ≠ 100 → u c j = g c j) ∧ ((ok_pl (g 101 0) p1.toInt p2.toInt → r.toInt = (wm_w (g 123) p2.toInt ((g 103) p1.toInt.toNat) (p2.toInt - (g 112) 0) ((g 122) 0).toNat)) ∧ (¬ (ok_pl (g 101 0) p1.toInt p2.toInt) → r.toInt = -1))) (okb dC dI dA sz X Γ) (ty_A sz)) 0 0 (ty_A sz) := by
  refine Met.ofW (cc := cX9_worth) (maxL := 3) (ret := (Option.some Jvm.ClassFile.FieldType.int)) (by decide) rfl ?_
  intro p e s m args below meth c s₁ B hml hv
  obtain ⟨rfl, hG, hE⟩ := hv
  have hx := B.exec
  have hb := B.bytes
  have hr := B.returns
  have hts := atoms_spec B.pre
  have hA : ∀ w ∈ AL, w.before _ s = true := fun w h => hts w (List.mem_cons_of_mem _ h)
  have hown : s.vm.findClass RX9 = some m.cls := findClass_of_methodNamed B.named
  have hlocks := B.notSynchronized
  have hS : va_S (ty_A sz) s.heap s.heap [] := va_S.rf
  have hl := lv_entry ([.ref h0, .int p1, .int p2]) (n := 3) (Nat.le_of_ble_eq_true rfl)
  rw [lg_entry_eq]
  generalize (lg_sl ([.ref h0, .int p1, .int p2]) ++ List.replicate (3 - (lg_sl ([.ref h0, .int p1, .int p2])).length) Slot.unset).toArray = ls at hl ⊢
  have hl : lv_has ls 3 [(0, .ref h0), (1, .int p1), (2, .int p2)] := hl
  refine lv_aload_n hx hb dX9_worth_0 rfl (lv_at hl 0 rfl) ?_
  refine ty_iconst hx hb (0) dX9_worth_1 (by decide) (fun x1 h2 => ?_)
  refine put_X9_0 hx hb hA hown hE hG hS hU t_h0 wd_4_130 dX9_worth_2 (fun H locs hG hS => ?_)
  refine lv_aload_n hx hb dX9_worth_5 rfl (lv_at hl 0 rfl) ?_
  refine lv_iload_n hx hb dX9_worth_6 rfl (lv_at hl 1 rfl) ?_
  refine lv_iload_n hx hb dX9_worth_7 rfl (lv_at hl 2 rfl) ?_
  have e3 : (gs g 100 0 x1.toInt) 101 0 = g 101 0 := by rw [gs_c _ _ _ _ (by decide)]
  refine cI (va_runV (C := RX9) (As := [.int p1, .int p2]) (rest := []) ⟨hx, hb, hml, hown, hA⟩ (k_X9_isPlace l dC dI dA sz X Γ hU (gs g 100 0 x1.toInt) h0 t_h0 p1 p2   ) ⟨callB_of 2 hA (al_A wd_5_50) rfl rfl rfl (hA _ wd_1_7) (hA _ wd_5_47) (by decide +kernel) ⟨Nat.le_of_ble_eq_true rfl, Nat.le_of_ble_eq_true rfl⟩, hA _ wd_5_49, hA _ ws_36⟩ ⟨bl, recv_X9 hE hG t_h0, fun U hU9 hW9 => ⟨rfl, by rw [hU9]; exact hG, hE.go hS hU9 hW9⟩⟩ rfl rfl hl.1 rfl (lv_room (Nat.le_of_ble_eq_true rfl)) dX9_worth_8 ⟨Nat.zero_le _, Nat.zero_le _⟩) hS (fun x6 u4 H locs w5 hG hS => ?_)
  obtain ⟨eu7, w5⟩ := w5
  rw [eu7] at hG
  refine ty_if_eq (tgt := 23) hx hb dX9_worth_11 (by decide) (fun c8 => ?_) (fun c8 => ?_)
  · skip
    refine ty_iconst hx hb (-1) dX9_worth_23 (by decide) (fun x9 h10 => ?_)
    exact W.iret (v := x9) hx hb hr (fun t ht hW => ⟨⟨x9, (gs g 100 0 x1.toInt), rfl, ⟨(fun c j h100 => by rw [gs_c _ _ _ _ h100]), (⟨fun q => absurd q (by unfold ok_pl; omega), fun _ => (by omega)⟩)⟩, ok1 ht hG⟩, hS.F ht⟩) hS.2.2 dX9_worth_24
  · skip
    refine lv_aload_n hx hb dX9_worth_14 rfl (lv_at hl 0 rfl) ?_
    refine lv_iload_n hx hb dX9_worth_15 rfl (lv_at hl 1 rfl) ?_
    refine lv_iload_n hx hb dX9_worth_16 rfl (lv_at hl 2 rfl) ?_
    have e11 : (gs g 100 0 x1.toInt) 122 0 = g 122 0 := by rw [gs_c _ _ _ _ (by decide)]
    have e12 : (gs g 100 0 x1.toInt) 112 0 = g 112 0 := by rw [gs_c _ _ _ _ (by decide)]
    refine cI (va_runV (C := RX9) (As := [.int p1, .int p2]) (rest := []) ⟨hx, hb, hml, hown, hA⟩ (k_X9_worthOf l dC dI dA sz X Γ hU (gs g 100 0 x1.toInt) h0 t_h0 p1 p2   (by omega) (by omega) (by omega)) ⟨callB_of 2 hA (al_A wd_5_120) rfl rfl rfl (hA _ wd_1_7) (hA _ wd_5_117) (by decide +kernel) ⟨Nat.le_of_ble_eq_true rfl, Nat.le_of_ble_eq_true rfl⟩, hA _ wd_5_119, hA _ ws_45⟩ ⟨bl, recv_X9 hE hG t_h0, fun U hU9 hW9 => ⟨rfl, by rw [hU9]; exact hG, hE.go hS hU9 hW9⟩⟩ rfl rfl hl.1 rfl (lv_room (Nat.le_of_ble_eq_true rfl)) dX9_worth_17 ⟨Nat.zero_le _, Nat.zero_le _⟩) hS (fun x15 u13 H locs w14 hG hS => ?_)
    obtain ⟨eu16, w14⟩ := w14
    rw [eu16] at hG
    rw [show (gs g 100 0 x1.toInt) 123 = (g 123) by rw [gs_r _ _ _ (by decide)]] at w14
    rw [show (gs g 100 0 x1.toInt) 103 = (g 103) by rw [gs_r _ _ _ (by decide)]] at w14
    rw [show (gs g 100 0 x1.toInt) 112 = (g 112) by rw [gs_r _ _ _ (by decide)]] at w14
    rw [show (gs g 100 0 x1.toInt) 122 = (g 122) by rw [gs_r _ _ _ (by decide)]] at w14
    refine lv_goto (tgt := 24) hx hb dX9_worth_20 (by decide) ?_
    exact W.iret (v := x15) hx hb hr (fun t ht hW => ⟨⟨x15, (gs g 100 0 x1.toInt), rfl, ⟨(fun c j h100 => by rw [gs_c _ _ _ _ h100]), (⟨fun _ => (w14), fun q => absurd (by unfold ok_pl; omega) q⟩)⟩, ok1 ht hG⟩, hS.F ht⟩) hS.2.2 dX9_worth_24

set_option maxHeartbeats 4000000 in
set_option maxRecDepth 100000 in
/-- WeekBankModel.own:  -/
theorem k_X9_own (l : Launch) (dC : Nat → ClassId) (dI : Nat → Nat → Nat) (dA : Nat → ClassId) (sz : Nat) (X : va_W) (Γ : ty_G) (hU : Un Γ) (g : gh) (h0 : Nat) (t_h0 : ty Γ h0 30) (p1 : Int32) (p2 : Int32) (p3 : Int32) (m1 : 0 ≤ g 101 0 ∧ g 101 0 ≤ 6) (m4 : 0 ≤ g 104 0 ∧ g 104 0 ≤ 10) (m26 : 0 ≤ g 126 0 ∧ g 126 0 ≤ 200) : Met l yX9_own (.code yX9_own cX9_own 5 (Option.some Jvm.ClassFile.FieldType.boolean) :: AL) ({ frames := 2, cells := 0, slots := 0, locals := 44 }) (PCx dC dI dA sz X Γ g [.ref h0, .int p1, .int p2, .int p3]) (va_Qi (fun (r : Int32) (u : gh) => (∀ c j : Nat, c ≠ 100 → c ≠ 109 → u c j = g c j) ∧ ((ok_own (g 101 0) (g 104 0) (g 108) (ga_f (g 128) (g 129) (g 130) p1.toInt p2.toInt (g 111 0) (g 126 0).toNat) (g 132) p1.toInt p2.toInt p3.toInt → r.toInt = 1 ∧ u 109 = pz_up (g 109) (53 * p1.toInt.toNat + p2.toInt.toNat) p3.toInt) ∧ (¬ (ok_own (g 101 0) (g 104 0) (g 108) (ga_f (g 128) (g 129) (g 130) p1.toInt p2.toInt (g 111 0) (g 126 0).toNat) (g 132) p1.toInt p2.toInt p3.toInt) → r.toInt = 0 ∧ u 109 = g 109))) (okb dC dI dA sz X Γ) (ty_A sz)) 0 0 (ty_A sz) := by
  refine Met.ofW (cc := cX9_own) (maxL := 5) (ret := (Option.some Jvm.ClassFile.FieldType.boolean)) (by decide) rfl ?_
  intro p e s m args below meth c s₁ B hml hv
  obtain ⟨rfl, hG, hE⟩ := hv
  have hx := B.exec
  have hb := B.bytes
  have hr := B.returns
  have hts := atoms_spec B.pre
  have hA : ∀ w ∈ AL, w.before _ s = true := fun w h => hts w (List.mem_cons_of_mem _ h)
  have hown : s.vm.findClass RX9 = some m.cls := findClass_of_methodNamed B.named
  have hlocks := B.notSynchronized
  have hS : va_S (ty_A sz) s.heap s.heap [] := va_S.rf
  have hl := lv_entry ([.ref h0, .int p1, .int p2, .int p3]) (n := 5) (Nat.le_of_ble_eq_true rfl)
  rw [lg_entry_eq]
  generalize (lg_sl ([.ref h0, .int p1, .int p2, .int p3]) ++ List.replicate (5 - (lg_sl ([.ref h0, .int p1, .int p2, .int p3])).length) Slot.unset).toArray = ls at hl ⊢
  have hl : lv_has ls 5 [(0, .ref h0), (1, .int p1), (2, .int p2), (3, .int p3)] := hl
  refine lv_aload_n hx hb dX9_own_0 rfl (lv_at hl 0 rfl) ?_
  refine ty_iconst hx hb (0) dX9_own_1 (by decide) (fun x1 h2 => ?_)
  refine put_X9_0 hx hb hA hown hE hG hS hU t_h0 wd_4_130 dX9_own_2 (fun H locs hG hS => ?_)
  refine lv_aload_n hx hb dX9_own_5 rfl (lv_at hl 0 rfl) ?_
  refine lv_iload_n hx hb dX9_own_6 rfl (lv_at hl 1 rfl) ?_
  refine lv_iload_n hx hb dX9_own_7 rfl (lv_at hl 2 rfl) ?_
  have e3 : (gs g 100 0 x1.toInt) 101 0 = g 101 0 := by rw [gs_c _ _ _ _ (by decide)]
  refine cI (va_runV (C := RX9) (As := [.int p1, .int p2]) (rest := []) ⟨hx, hb, hml, hown, hA⟩ (k_X9_isPlace l dC dI dA sz X Γ hU (gs g 100 0 x1.toInt) h0 t_h0 p1 p2   ) ⟨callB_of 2 hA (al_A wd_5_50) rfl rfl rfl (hA _ wd_1_7) (hA _ wd_5_47) (by decide +kernel) ⟨Nat.le_of_ble_eq_true rfl, Nat.le_of_ble_eq_true rfl⟩, hA _ wd_5_49, hA _ ws_36⟩ ⟨bl, recv_X9 hE hG t_h0, fun U hU9 hW9 => ⟨rfl, by rw [hU9]; exact hG, hE.go hS hU9 hW9⟩⟩ rfl rfl hl.1 rfl (lv_room (Nat.le_of_ble_eq_true rfl)) dX9_own_8 ⟨Nat.zero_le _, Nat.zero_le _⟩) hS (fun x6 u4 H locs w5 hG hS => ?_)
  obtain ⟨eu7, w5⟩ := w5
  rw [eu7] at hG
  refine ty_if_eq (tgt := 27) hx hb dX9_own_11 (by decide) (fun c8 => ?_) (fun c8 => ?_)
  · skip
    refine ty_iconst hx hb (0) dX9_own_27 (by decide) (fun x9 h10 => ?_)
    exact W.zret (v := x9) hx hb hr (ty_nb (by omega)).1 (fun t ht hW => ⟨⟨x9, (gs g 100 0 x1.toInt), rfl, ⟨(fun c j h100 h109 => by rw [gs_c _ _ _ _ h100]), (⟨fun q => absurd q (by unfold ok_own; omega), fun _ => ⟨(by omega), (by rw [gs_r _ _ _ (by decide)])⟩⟩)⟩, ok1 ht hG⟩, hS.F ht⟩) hS.2.2 dX9_own_28
  · skip
    refine lv_iload_n hx hb dX9_own_14 rfl (lv_at hl 3 rfl) ?_
    refine ty_iconst hx hb (-1) dX9_own_15 (by decide) (fun x11 h12 => ?_)
    refine ty_icmp_eq (tgt := 29) hx hb dX9_own_16 (by decide) (fun c13 => ?_) (fun c13 => ?_)
    · skip
      refine lv_aload_n hx hb dX9_own_29 rfl (lv_at hl 0 rfl) ?_
      refine lv_iload_n hx hb dX9_own_30 rfl (lv_at hl 1 rfl) ?_
      refine lv_iload_n hx hb dX9_own_31 rfl (lv_at hl 2 rfl) ?_
      have e14 : (gs g 100 0 x1.toInt) 126 0 = g 126 0 := by rw [gs_c _ _ _ _ (by decide)]
      have e15 : (gs g 100 0 x1.toInt) 126 0 = g 126 0 := by rw [gs_c _ _ _ _ (by decide)]
      refine cI (va_runV (C := RX9) (As := [.int p1, .int p2]) (rest := []) ⟨hx, hb, hml, hown, hA⟩ (k_X9_givenAt l dC dI dA sz X Γ hU (gs g 100 0 x1.toInt) h0 t_h0 p1 p2   (by omega)) ⟨callB_of 2 hA (al_A wd_5_58) rfl rfl rfl (hA _ wd_1_7) (hA _ wd_5_55) (by decide +kernel) ⟨Nat.le_of_ble_eq_true rfl, Nat.le_of_ble_eq_true rfl⟩, hA _ wd_5_57, hA _ ws_38⟩ ⟨bl, recv_X9 hE hG t_h0, fun U hU9 hW9 => ⟨rfl, by rw [hU9]; exact hG, hE.go hS hU9 hW9⟩⟩ rfl rfl hl.1 rfl (lv_room (Nat.le_of_ble_eq_true rfl)) dX9_own_32 ⟨Nat.zero_le _, Nat.zero_le _⟩) hS (fun x18 u16 H locs w17 hG hS => ?_)
      obtain ⟨eu19, w17⟩ := w17
      rw [eu19] at hG
      rw [show (gs g 100 0 x1.toInt) 128 = (g 128) by rw [gs_r _ _ _ (by decide)]] at w17
      rw [show (gs g 100 0 x1.toInt) 129 = (g 129) by rw [gs_r _ _ _ (by decide)]] at w17
      rw [show (gs g 100 0 x1.toInt) 130 = (g 130) by rw [gs_r _ _ _ (by decide)]] at w17
      rw [show (gs g 100 0 x1.toInt) 111 = (g 111) by rw [gs_r _ _ _ (by decide)]] at w17
      rw [show (gs g 100 0 x1.toInt) 126 = (g 126) by rw [gs_r _ _ _ (by decide)]] at w17
      refine lv_istore (lv' := [(4, .int x18), (0, .ref h0), (1, .int p1), (2, .int p2), (3, .int p3)]) hx hb dX9_own_35 hl (by decide) rfl (fun ls hl => ?_)
      refine lv_iload hx hb dX9_own_37 (lv_at hl 0 rfl) ?_
      refine ty_iconst hx hb (-1) dX9_own_39 (by decide) (fun x20 h21 => ?_)
      refine ty_icmp_eq (tgt := 56) hx hb dX9_own_40 (by decide) (fun c22 => ?_) (fun c22 => ?_)
      · skip
        refine lv_aload_n hx hb dX9_own_56 rfl (lv_at hl 1 rfl) ?_
        refine get_X9_9 hx hb hA hown hE hG t_h0 wd_4_139 dX9_own_57 (fun b23 (t_b23 : ty Γ b23 109) => ?_)
        refine ty_bipush hx hb (53) dX9_own_60 (by decide) (fun x24 h25 => ?_)
        refine lv_iload_n hx hb dX9_own_62 rfl (lv_at hl 2 rfl) ?_
        refine ty_imul hx hb dX9_own_63 (fun x26 h27 => ?_)
        try have h28 : x26.toInt = 53 * p1.toInt := ty_mull h27 (by omega) (by omega) (by omega)
        refine lv_iload_n hx hb dX9_own_64 rfl (lv_at hl 3 rfl) ?_
        refine ty_iadd hx hb dX9_own_65 (fun x29 h30 => ?_)
        try have h31 : x29.toInt = x26.toInt + p2.toInt := ty_add h30 (by omega) (by omega)
        refine lv_iload_n hx hb dX9_own_66 rfl (lv_at hl 4 rfl) ?_
        refine ast_mI hx hb hE hG hS hU 9 rfl (n := 318) rfl (lo := -2147483648) (hi := 2147483647) rfl rfl rfl t_b23 (rgD _) (by omega) dX9_own_67 (fun H locs hG hS => ?_)
        rw [show x29.toInt.toNat = (53 * p1.toInt.toNat + p2.toInt.toNat) by omega] at hG
        refine ty_iconst hx hb (1) dX9_own_68 (by decide) (fun x32 h33 => ?_)
        exact W.zret (v := x32) hx hb hr (ty_nb (by omega)).1 (fun t ht hW => ⟨⟨x32, (gs (gs g 100 0 x1.toInt) 109 (53 * p1.toInt.toNat + p2.toInt.toNat) p3.toInt), rfl, ⟨(fun c j h100 h109 => by rw [gs_c _ _ _ _ h109, gs_c _ _ _ _ h100]), (⟨fun _ => ⟨(by omega), (by rw [pz_gs, gs_r _ _ _ (by decide)] <;> exact pz_upc (by omega) (by omega))⟩, fun q => absurd (by unfold ok_own; omega) q⟩)⟩, ok1 ht hG⟩, hS.F ht⟩) hS.2.2 dX9_own_69
      · skip
        refine lv_aload_n hx hb dX9_own_43 rfl (lv_at hl 1 rfl) ?_
        refine get_X9_32 hx hb hA hown hE hG t_h0 wd_4_162 dX9_own_44 (fun b34 (t_b34 : ty Γ b34 132) => ?_)
        refine lv_iload hx hb dX9_own_47 (lv_at hl 0 rfl) ?_
        refine ald_mI hx hb hE hG 32 rfl (n := 200) rfl (lo := 0) (hi := 5) rfl rfl t_b34 (by omega) dX9_own_49 (fun j36 x35 h37 h38 h39 => ?_)
        obtain rfl : j36 = x18.toInt.toNat := by omega
        rw [gs_c _ _ _ _ (by decide)] at h38
        replace h38 : x35.toInt = g 132 x18.toInt.toNat := h38
        replace h38 : x35.toInt = g 132 ((ga_f (g 128) (g 129) (g 130) p1.toInt p2.toInt (g 111 0) (g 126 0).toNat).toNat) := by rw [h38, show x18.toInt.toNat = ((ga_f (g 128) (g 129) (g 130) p1.toInt p2.toInt (g 111 0) (g 126 0).toNat).toNat) by omega]
        refine ty_iconst hx hb (4) dX9_own_50 (by decide) (fun x40 h41 => ?_)
        refine ty_icmp_ge (tgt := 56) hx hb dX9_own_51 (by decide) (fun c42 => ?_) (fun c42 => ?_)
        · skip
          refine lv_aload_n hx hb dX9_own_56 rfl (lv_at hl 1 rfl) ?_
          refine get_X9_9 hx hb hA hown hE hG t_h0 wd_4_139 dX9_own_57 (fun b43 (t_b43 : ty Γ b43 109) => ?_)
          refine ty_bipush hx hb (53) dX9_own_60 (by decide) (fun x44 h45 => ?_)
          refine lv_iload_n hx hb dX9_own_62 rfl (lv_at hl 2 rfl) ?_
          refine ty_imul hx hb dX9_own_63 (fun x46 h47 => ?_)
          try have h48 : x46.toInt = 53 * p1.toInt := ty_mull h47 (by omega) (by omega) (by omega)
          refine lv_iload_n hx hb dX9_own_64 rfl (lv_at hl 3 rfl) ?_
          refine ty_iadd hx hb dX9_own_65 (fun x49 h50 => ?_)
          try have h51 : x49.toInt = x46.toInt + p2.toInt := ty_add h50 (by omega) (by omega)
          refine lv_iload_n hx hb dX9_own_66 rfl (lv_at hl 4 rfl) ?_
          refine ast_mI hx hb hE hG hS hU 9 rfl (n := 318) rfl (lo := -2147483648) (hi := 2147483647) rfl rfl rfl t_b43 (rgD _) (by omega) dX9_own_67 (fun H locs hG hS => ?_)
          rw [show x49.toInt.toNat = (53 * p1.toInt.toNat + p2.toInt.toNat) by omega] at hG
          refine ty_iconst hx hb (1) dX9_own_68 (by decide) (fun x52 h53 => ?_)
          exact W.zret (v := x52) hx hb hr (ty_nb (by omega)).1 (fun t ht hW => ⟨⟨x52, (gs (gs g 100 0 x1.toInt) 109 (53 * p1.toInt.toNat + p2.toInt.toNat) p3.toInt), rfl, ⟨(fun c j h100 h109 => by rw [gs_c _ _ _ _ h109, gs_c _ _ _ _ h100]), (⟨fun _ => ⟨(by omega), (by rw [pz_gs, gs_r _ _ _ (by decide)] <;> exact pz_upc (by omega) (by omega))⟩, fun q => absurd (by unfold ok_own; omega) q⟩)⟩, ok1 ht hG⟩, hS.F ht⟩) hS.2.2 dX9_own_69
        · skip
          refine ty_iconst hx hb (0) dX9_own_54 (by decide) (fun x54 h55 => ?_)
          exact W.zret (v := x54) hx hb hr (ty_nb (by omega)).1 (fun t ht hW => ⟨⟨x54, (gs g 100 0 x1.toInt), rfl, ⟨(fun c j h100 h109 => by rw [gs_c _ _ _ _ h100]), (⟨fun q => absurd q (by unfold ok_own; omega), fun _ => ⟨(by omega), (by rw [gs_r _ _ _ (by decide)])⟩⟩)⟩, ok1 ht hG⟩, hS.F ht⟩) hS.2.2 dX9_own_55
    · skip
      refine lv_aload_n hx hb dX9_own_19 rfl (lv_at hl 0 rfl) ?_
      refine lv_iload_n hx hb dX9_own_20 rfl (lv_at hl 3 rfl) ?_
      have e56 : (gs g 100 0 x1.toInt) 104 0 = g 104 0 := by rw [gs_c _ _ _ _ (by decide)]
      have e57 : (gs g 100 0 x1.toInt) 104 0 = g 104 0 := by rw [gs_c _ _ _ _ (by decide)]
      have e58 : (gs g 100 0 x1.toInt) 108 p3.toInt.toNat = g 108 p3.toInt.toNat := by rw [gs_c _ _ _ _ (by decide)]
      refine cI (va_runV (C := RX9) (As := [.int p3]) (rest := []) ⟨hx, hb, hml, hown, hA⟩ (k_X9_isAlive l dC dI dA sz X Γ hU (gs g 100 0 x1.toInt) h0 t_h0 p3   (by omega)) ⟨callB_of 1 hA (al_A wd_5_54) rfl rfl rfl (hA _ wd_1_7) (hA _ wd_5_51) (by decide +kernel) ⟨Nat.le_of_ble_eq_true rfl, Nat.le_of_ble_eq_true rfl⟩, hA _ wd_5_53, hA _ ws_37⟩ ⟨bl, recv_X9 hE hG t_h0, fun U hU9 hW9 => ⟨rfl, by rw [hU9]; exact hG, hE.go hS hU9 hW9⟩⟩ rfl rfl hl.1 rfl (lv_room (Nat.le_of_ble_eq_true rfl)) dX9_own_21 ⟨Nat.zero_le _, Nat.zero_le _⟩) hS (fun x61 u59 H locs w60 hG hS => ?_)
      obtain ⟨eu62, w60⟩ := w60
      rw [eu62] at hG
      rcases pz_or w60 with w60 | w60
      · skip
        refine ty_if_ne (tgt := 29) hx hb dX9_own_24 (by decide) (fun c63 => ?_) (fun c63 => ?_)
        · skip
          refine lv_aload_n hx hb dX9_own_29 rfl (lv_at hl 0 rfl) ?_
          refine lv_iload_n hx hb dX9_own_30 rfl (lv_at hl 1 rfl) ?_
          refine lv_iload_n hx hb dX9_own_31 rfl (lv_at hl 2 rfl) ?_
          have e64 : (gs g 100 0 x1.toInt) 126 0 = g 126 0 := by rw [gs_c _ _ _ _ (by decide)]
          have e65 : (gs g 100 0 x1.toInt) 126 0 = g 126 0 := by rw [gs_c _ _ _ _ (by decide)]
          refine cI (va_runV (C := RX9) (As := [.int p1, .int p2]) (rest := []) ⟨hx, hb, hml, hown, hA⟩ (k_X9_givenAt l dC dI dA sz X Γ hU (gs g 100 0 x1.toInt) h0 t_h0 p1 p2   (by omega)) ⟨callB_of 2 hA (al_A wd_5_58) rfl rfl rfl (hA _ wd_1_7) (hA _ wd_5_55) (by decide +kernel) ⟨Nat.le_of_ble_eq_true rfl, Nat.le_of_ble_eq_true rfl⟩, hA _ wd_5_57, hA _ ws_38⟩ ⟨bl, recv_X9 hE hG t_h0, fun U hU9 hW9 => ⟨rfl, by rw [hU9]; exact hG, hE.go hS hU9 hW9⟩⟩ rfl rfl hl.1 rfl (lv_room (Nat.le_of_ble_eq_true rfl)) dX9_own_32 ⟨Nat.zero_le _, Nat.zero_le _⟩) hS (fun x68 u66 H locs w67 hG hS => ?_)
          obtain ⟨eu69, w67⟩ := w67
          rw [eu69] at hG
          rw [show (gs g 100 0 x1.toInt) 128 = (g 128) by rw [gs_r _ _ _ (by decide)]] at w67
          rw [show (gs g 100 0 x1.toInt) 129 = (g 129) by rw [gs_r _ _ _ (by decide)]] at w67
          rw [show (gs g 100 0 x1.toInt) 130 = (g 130) by rw [gs_r _ _ _ (by decide)]] at w67
          rw [show (gs g 100 0 x1.toInt) 111 = (g 111) by rw [gs_r _ _ _ (by decide)]] at w67
          rw [show (gs g 100 0 x1.toInt) 126 = (g 126) by rw [gs_r _ _ _ (by decide)]] at w67
          refine lv_istore (lv' := [(4, .int x68), (0, .ref h0), (1, .int p1), (2, .int p2), (3, .int p3)]) hx hb dX9_own_35 hl (by decide) rfl (fun ls hl => ?_)
          refine lv_iload hx hb dX9_own_37 (lv_at hl 0 rfl) ?_
          refine ty_iconst hx hb (-1) dX9_own_39 (by decide) (fun x70 h71 => ?_)
          refine ty_icmp_eq (tgt := 56) hx hb dX9_own_40 (by decide) (fun c72 => ?_) (fun c72 => ?_)
          · skip
            refine lv_aload_n hx hb dX9_own_56 rfl (lv_at hl 1 rfl) ?_
            refine get_X9_9 hx hb hA hown hE hG t_h0 wd_4_139 dX9_own_57 (fun b73 (t_b73 : ty Γ b73 109) => ?_)
            refine ty_bipush hx hb (53) dX9_own_60 (by decide) (fun x74 h75 => ?_)
            refine lv_iload_n hx hb dX9_own_62 rfl (lv_at hl 2 rfl) ?_
            refine ty_imul hx hb dX9_own_63 (fun x76 h77 => ?_)
            try have h78 : x76.toInt = 53 * p1.toInt := ty_mull h77 (by omega) (by omega) (by omega)
            refine lv_iload_n hx hb dX9_own_64 rfl (lv_at hl 3 rfl) ?_
            refine ty_iadd hx hb dX9_own_65 (fun x79 h80 => ?_)
            try have h81 : x79.toInt = x76.toInt + p2.toInt := ty_add h80 (by omega) (by omega)
            refine lv_iload_n hx hb dX9_own_66 rfl (lv_at hl 4 rfl) ?_
            refine ast_mI hx hb hE hG hS hU 9 rfl (n := 318) rfl (lo := -2147483648) (hi := 2147483647) rfl rfl rfl t_b73 (rgD _) (by omega) dX9_own_67 (fun H locs hG hS => ?_)
            rw [show x79.toInt.toNat = (53 * p1.toInt.toNat + p2.toInt.toNat) by omega] at hG
            refine ty_iconst hx hb (1) dX9_own_68 (by decide) (fun x82 h83 => ?_)
            exact W.zret (v := x82) hx hb hr (ty_nb (by omega)).1 (fun t ht hW => ⟨⟨x82, (gs (gs g 100 0 x1.toInt) 109 (53 * p1.toInt.toNat + p2.toInt.toNat) p3.toInt), rfl, ⟨(fun c j h100 h109 => by rw [gs_c _ _ _ _ h109, gs_c _ _ _ _ h100]), (⟨fun _ => ⟨(by omega), (by rw [pz_gs, gs_r _ _ _ (by decide)] <;> exact pz_upc (by omega) (by omega))⟩, fun q => absurd (by unfold ok_own; omega) q⟩)⟩, ok1 ht hG⟩, hS.F ht⟩) hS.2.2 dX9_own_69
          · skip
            refine lv_aload_n hx hb dX9_own_43 rfl (lv_at hl 1 rfl) ?_
            refine get_X9_32 hx hb hA hown hE hG t_h0 wd_4_162 dX9_own_44 (fun b84 (t_b84 : ty Γ b84 132) => ?_)
            refine lv_iload hx hb dX9_own_47 (lv_at hl 0 rfl) ?_
            refine ald_mI hx hb hE hG 32 rfl (n := 200) rfl (lo := 0) (hi := 5) rfl rfl t_b84 (by omega) dX9_own_49 (fun j86 x85 h87 h88 h89 => ?_)
            obtain rfl : j86 = x68.toInt.toNat := by omega
            rw [gs_c _ _ _ _ (by decide)] at h88
            replace h88 : x85.toInt = g 132 x68.toInt.toNat := h88
            replace h88 : x85.toInt = g 132 ((ga_f (g 128) (g 129) (g 130) p1.toInt p2.toInt (g 111 0) (g 126 0).toNat).toNat) := by rw [h88, show x68.toInt.toNat = ((ga_f (g 128) (g 129) (g 130) p1.toInt p2.toInt (g 111 0) (g 126 0).toNat).toNat) by omega]
            refine ty_iconst hx hb (4) dX9_own_50 (by decide) (fun x90 h91 => ?_)
            refine ty_icmp_ge (tgt := 56) hx hb dX9_own_51 (by decide) (fun c92 => ?_) (fun c92 => ?_)
            · skip
              refine lv_aload_n hx hb dX9_own_56 rfl (lv_at hl 1 rfl) ?_
              refine get_X9_9 hx hb hA hown hE hG t_h0 wd_4_139 dX9_own_57 (fun b93 (t_b93 : ty Γ b93 109) => ?_)
              refine ty_bipush hx hb (53) dX9_own_60 (by decide) (fun x94 h95 => ?_)
              refine lv_iload_n hx hb dX9_own_62 rfl (lv_at hl 2 rfl) ?_
              refine ty_imul hx hb dX9_own_63 (fun x96 h97 => ?_)
              try have h98 : x96.toInt = 53 * p1.toInt := ty_mull h97 (by omega) (by omega) (by omega)
              refine lv_iload_n hx hb dX9_own_64 rfl (lv_at hl 3 rfl) ?_
              refine ty_iadd hx hb dX9_own_65 (fun x99 h100 => ?_)
              try have h101 : x99.toInt = x96.toInt + p2.toInt := ty_add h100 (by omega) (by omega)
              refine lv_iload_n hx hb dX9_own_66 rfl (lv_at hl 4 rfl) ?_
              refine ast_mI hx hb hE hG hS hU 9 rfl (n := 318) rfl (lo := -2147483648) (hi := 2147483647) rfl rfl rfl t_b93 (rgD _) (by omega) dX9_own_67 (fun H locs hG hS => ?_)
              rw [show x99.toInt.toNat = (53 * p1.toInt.toNat + p2.toInt.toNat) by omega] at hG
              refine ty_iconst hx hb (1) dX9_own_68 (by decide) (fun x102 h103 => ?_)
              exact W.zret (v := x102) hx hb hr (ty_nb (by omega)).1 (fun t ht hW => ⟨⟨x102, (gs (gs g 100 0 x1.toInt) 109 (53 * p1.toInt.toNat + p2.toInt.toNat) p3.toInt), rfl, ⟨(fun c j h100 h109 => by rw [gs_c _ _ _ _ h109, gs_c _ _ _ _ h100]), (⟨fun _ => ⟨(by omega), (by rw [pz_gs, gs_r _ _ _ (by decide)] <;> exact pz_upc (by omega) (by omega))⟩, fun q => absurd (by unfold ok_own; omega) q⟩)⟩, ok1 ht hG⟩, hS.F ht⟩) hS.2.2 dX9_own_69
            · skip
              refine ty_iconst hx hb (0) dX9_own_54 (by decide) (fun x104 h105 => ?_)
              exact W.zret (v := x104) hx hb hr (ty_nb (by omega)).1 (fun t ht hW => ⟨⟨x104, (gs g 100 0 x1.toInt), rfl, ⟨(fun c j h100 h109 => by rw [gs_c _ _ _ _ h100]), (⟨fun q => absurd q (by unfold ok_own; omega), fun _ => ⟨(by omega), (by rw [gs_r _ _ _ (by decide)])⟩⟩)⟩, ok1 ht hG⟩, hS.F ht⟩) hS.2.2 dX9_own_55
        · exfalso; omega
      · skip
        refine ty_if_ne (tgt := 29) hx hb dX9_own_24 (by decide) (fun c106 => ?_) (fun c106 => ?_)
        · exfalso; omega
        · skip
          refine ty_iconst hx hb (0) dX9_own_27 (by decide) (fun x107 h108 => ?_)
          exact W.zret (v := x107) hx hb hr (ty_nb (by omega)).1 (fun t ht hW => ⟨⟨x107, (gs g 100 0 x1.toInt), rfl, ⟨(fun c j h100 h109 => by rw [gs_c _ _ _ _ h100]), (⟨fun q => absurd q (by unfold ok_own; omega), fun _ => ⟨(by omega), (by rw [gs_r _ _ _ (by decide)])⟩⟩)⟩, ok1 ht hG⟩, hS.F ht⟩) hS.2.2 dX9_own_28
