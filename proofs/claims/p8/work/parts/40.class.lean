set_option maxHeartbeats 4000000 in
set_option maxRecDepth 100000 in
/-- WeekBank$Gift.isGot:  -/
theorem k_X2_isGot (l : Launch) (dC : Nat → ClassId) (dI : Nat → Nat → Nat) (dA : Nat → ClassId) (sz : Nat) (X : va_W) (Γ : ty_G) (hU : Un Γ) (g : gh) (h0 : Nat) (t_h0 : ty Γ h0 4) : Met l yX2_isGot (.code yX2_isGot cX2_isGot 1 (Option.some Jvm.ClassFile.FieldType.boolean) :: AL) ({ frames := 0, cells := 0, slots := 0, locals := 0 }) (PCx dC dI dA sz X Γ g [.ref h0]) (va_Qi (fun (r : Int32) (u : gh) => u = g ∧ ((r.toInt = 0 ∨ r.toInt = 1))) (okb dC dI dA sz X Γ) (ty_A sz)) 0 0 (ty_A sz) := by
  refine Met.ofW (cc := cX2_isGot) (maxL := 1) (ret := (Option.some Jvm.ClassFile.FieldType.boolean)) (by decide) rfl ?_
  intro p e s m args below meth c s₁ B hml hv
  obtain ⟨rfl, hG, hE⟩ := hv
  have hx := B.exec
  have hb := B.bytes
  have hr := B.returns
  have hts := atoms_spec B.pre
  have hA : ∀ w ∈ AL, w.before _ s = true := fun w h => hts w (List.mem_cons_of_mem _ h)
  have hown : s.vm.findClass RX2 = some m.cls := findClass_of_methodNamed B.named
  have hlocks := B.notSynchronized
  have hS : va_S (ty_A sz) s.heap s.heap [] := va_S.rf
  have hl := lv_entry ([.ref h0]) (n := 1) (Nat.le_of_ble_eq_true rfl)
  rw [lg_entry_eq]
  generalize (lg_sl ([.ref h0]) ++ List.replicate (1 - (lg_sl ([.ref h0])).length) Slot.unset).toArray = ls at hl ⊢
  have hl : lv_has ls 1 [(0, .ref h0)] := hl
  refine lv_aload_n hx hb dX2_isGot_0 rfl (lv_at hl 0 rfl) ?_
  refine get_X2_6 hx hb hA hown hE hG t_h0 wd_3_32 dX2_isGot_1 (fun x1 => ?_)
  refine ty_iconst hx hb (1) dX2_isGot_4 (by decide) (fun x2 h3 => ?_)
  refine ty_icmp_eq (tgt := 16) hx hb dX2_isGot_5 (by decide) (fun c4 => ?_) (fun c4 => ?_)
  · skip
    refine ty_iconst hx hb (1) dX2_isGot_16 (by decide) (fun x5 h6 => ?_)
    refine lv_goto (tgt := 21) hx hb dX2_isGot_17 (by decide) ?_
    exact W.zret (v := x5) hx hb hr (ty_nb (by omega)).1 (fun t ht hW => ⟨⟨x5, g, rfl, ⟨rfl, (by omega)⟩, ok1 ht hG⟩, hS.F ht⟩) hS.2.2 dX2_isGot_21
  · skip
    refine lv_aload_n hx hb dX2_isGot_8 rfl (lv_at hl 0 rfl) ?_
    refine get_X2_6 hx hb hA hown hE hG t_h0 wd_3_32 dX2_isGot_9 (fun x7 => ?_)
    refine ty_iconst hx hb (3) dX2_isGot_12 (by decide) (fun x8 h9 => ?_)
    refine ty_icmp_ne (tgt := 20) hx hb dX2_isGot_13 (by decide) (fun c10 => ?_) (fun c10 => ?_)
    · skip
      refine ty_iconst hx hb (0) dX2_isGot_20 (by decide) (fun x11 h12 => ?_)
      exact W.zret (v := x11) hx hb hr (ty_nb (by omega)).1 (fun t ht hW => ⟨⟨x11, g, rfl, ⟨rfl, (by omega)⟩, ok1 ht hG⟩, hS.F ht⟩) hS.2.2 dX2_isGot_21
    · skip
      refine ty_iconst hx hb (1) dX2_isGot_16 (by decide) (fun x13 h14 => ?_)
      refine lv_goto (tgt := 21) hx hb dX2_isGot_17 (by decide) ?_
      exact W.zret (v := x13) hx hb hr (ty_nb (by omega)).1 (fun t ht hW => ⟨⟨x13, g, rfl, ⟨rfl, (by omega)⟩, ok1 ht hG⟩, hS.F ht⟩) hS.2.2 dX2_isGot_21

set_option maxHeartbeats 4000000 in
set_option maxRecDepth 100000 in
/-- WeekBank$Gift.isOut:  -/
theorem k_X2_isOut (l : Launch) (dC : Nat → ClassId) (dI : Nat → Nat → Nat) (dA : Nat → ClassId) (sz : Nat) (X : va_W) (Γ : ty_G) (hU : Un Γ) (g : gh) (h0 : Nat) (t_h0 : ty Γ h0 4) : Met l yX2_isOut (.code yX2_isOut cX2_isOut 1 (Option.some Jvm.ClassFile.FieldType.boolean) :: AL) ({ frames := 1, cells := 0, slots := 0, locals := 20 }) (PCx dC dI dA sz X Γ g [.ref h0]) (va_Qi (fun (r : Int32) (u : gh) => u = g ∧ ((r.toInt = 0 ∨ r.toInt = 1))) (okb dC dI dA sz X Γ) (ty_A sz)) 0 0 (ty_A sz) := by
  refine Met.ofW (cc := cX2_isOut) (maxL := 1) (ret := (Option.some Jvm.ClassFile.FieldType.boolean)) (by decide) rfl ?_
  intro p e s m args below meth c s₁ B hml hv
  obtain ⟨rfl, hG, hE⟩ := hv
  have hx := B.exec
  have hb := B.bytes
  have hr := B.returns
  have hts := atoms_spec B.pre
  have hA : ∀ w ∈ AL, w.before _ s = true := fun w h => hts w (List.mem_cons_of_mem _ h)
  have hown : s.vm.findClass RX2 = some m.cls := findClass_of_methodNamed B.named
  have hlocks := B.notSynchronized
  have hS : va_S (ty_A sz) s.heap s.heap [] := va_S.rf
  have hl := lv_entry ([.ref h0]) (n := 1) (Nat.le_of_ble_eq_true rfl)
  rw [lg_entry_eq]
  generalize (lg_sl ([.ref h0]) ++ List.replicate (1 - (lg_sl ([.ref h0])).length) Slot.unset).toArray = ls at hl ⊢
  have hl : lv_has ls 1 [(0, .ref h0)] := hl
  refine lv_aload_n hx hb dX2_isOut_0 rfl (lv_at hl 0 rfl) ?_
  refine get_X2_6 hx hb hA hown hE hG t_h0 wd_3_32 dX2_isOut_1 (fun x1 => ?_)
  refine ty_if_eq (tgt := 22) hx hb dX2_isOut_4 (by decide) (fun c2 => ?_) (fun c2 => ?_)
  · skip
    refine ty_iconst hx hb (1) dX2_isOut_22 (by decide) (fun x3 h4 => ?_)
    refine lv_goto (tgt := 27) hx hb dX2_isOut_23 (by decide) ?_
    exact W.zret (v := x3) hx hb hr (ty_nb (by omega)).1 (fun t ht hW => ⟨⟨x3, g, rfl, ⟨rfl, (by omega)⟩, ok1 ht hG⟩, hS.F ht⟩) hS.2.2 dX2_isOut_27
  · skip
    refine lv_aload_n hx hb dX2_isOut_7 rfl (lv_at hl 0 rfl) ?_
    refine get_X2_6 hx hb hA hown hE hG t_h0 wd_3_32 dX2_isOut_8 (fun x5 => ?_)
    refine ty_iconst hx hb (2) dX2_isOut_11 (by decide) (fun x6 h7 => ?_)
    refine ty_icmp_eq (tgt := 22) hx hb dX2_isOut_12 (by decide) (fun c8 => ?_) (fun c8 => ?_)
    · skip
      refine ty_iconst hx hb (1) dX2_isOut_22 (by decide) (fun x9 h10 => ?_)
      refine lv_goto (tgt := 27) hx hb dX2_isOut_23 (by decide) ?_
      exact W.zret (v := x9) hx hb hr (ty_nb (by omega)).1 (fun t ht hW => ⟨⟨x9, g, rfl, ⟨rfl, (by omega)⟩, ok1 ht hG⟩, hS.F ht⟩) hS.2.2 dX2_isOut_27
    · skip
      refine lv_aload_n hx hb dX2_isOut_15 rfl (lv_at hl 0 rfl) ?_
      refine cI (va_runV (C := RX2) (As := []) (rest := []) ⟨hx, hb, hml, hown, hA⟩ (k_X2_isGot l dC dI dA sz X Γ hU g h0 t_h0   ) ⟨callB_of 0 hA (al_A wd_2_67) rfl rfl rfl (hA _ wd_1_15) (hA _ wd_2_64) (by decide +kernel) ⟨Nat.le_of_ble_eq_true rfl, Nat.le_of_ble_eq_true rfl⟩, hA _ wd_2_65, hA _ wd_2_66⟩ ⟨bl, recv_X2 hE hG t_h0, fun U hU9 hW9 => ⟨rfl, by rw [hU9]; exact hG, hE.go hS hU9 hW9⟩⟩ rfl rfl hl.1 rfl (lv_room (Nat.le_of_ble_eq_true rfl)) dX2_isOut_16 ⟨Nat.zero_le _, Nat.zero_le _⟩) hS (fun x13 u11 H locs w12 hG hS => ?_)
      obtain ⟨eu14, w12⟩ := w12
      rw [eu14] at hG
      refine ty_if_eq (tgt := 26) hx hb dX2_isOut_19 (by decide) (fun c15 => ?_) (fun c15 => ?_)
      · skip
        refine ty_iconst hx hb (0) dX2_isOut_26 (by decide) (fun x16 h17 => ?_)
        exact W.zret (v := x16) hx hb hr (ty_nb (by omega)).1 (fun t ht hW => ⟨⟨x16, g, rfl, ⟨rfl, (by omega)⟩, ok1 ht hG⟩, hS.F ht⟩) hS.2.2 dX2_isOut_27
      · skip
        refine ty_iconst hx hb (1) dX2_isOut_22 (by decide) (fun x18 h19 => ?_)
        refine lv_goto (tgt := 27) hx hb dX2_isOut_23 (by decide) ?_
        exact W.zret (v := x18) hx hb hr (ty_nb (by omega)).1 (fun t ht hW => ⟨⟨x18, g, rfl, ⟨rfl, (by omega)⟩, ok1 ht hG⟩, hS.F ht⟩) hS.2.2 dX2_isOut_27

set_option maxHeartbeats 4000000 in
set_option maxRecDepth 100000 in
/-- WeekBank$Gift.meets:  -/
theorem k_X2_meets (l : Launch) (dC : Nat → ClassId) (dI : Nat → Nat → Nat) (dA : Nat → ClassId) (sz : Nat) (X : va_W) (Γ : ty_G) (hU : Un Γ) (g : gh) (h0 : Nat) (t_h0 : ty Γ h0 4) (q1 : Option Nat) (t_q1 : ∀ b, q1 = some b → (Γ b).1 = 5) : Met l yX2_meets (.code yX2_meets cX2_meets 3 (Option.some Jvm.ClassFile.FieldType.boolean) :: AL) ({ frames := 0, cells := 0, slots := 0, locals := 0 }) (PCx dC dI dA sz X Γ g [.ref h0, va_rf q1]) (va_Qi (fun (r : Int32) (u : gh) => u = g ∧ ((r.toInt = 0 ∨ r.toInt = 1))) (okb dC dI dA sz X Γ) (ty_A sz)) 0 0 (ty_A sz) := by
  refine Met.ofW (cc := cX2_meets) (maxL := 3) (ret := (Option.some Jvm.ClassFile.FieldType.boolean)) (by decide) rfl ?_
  intro p e s m args below meth c s₁ B hml hv
  obtain ⟨rfl, hG, hE⟩ := hv
  have hx := B.exec
  have hb := B.bytes
  have hr := B.returns
  have hts := atoms_spec B.pre
  have hA : ∀ w ∈ AL, w.before _ s = true := fun w h => hts w (List.mem_cons_of_mem _ h)
  have hown : s.vm.findClass RX2 = some m.cls := findClass_of_methodNamed B.named
  have hlocks := B.notSynchronized
  have hS : va_S (ty_A sz) s.heap s.heap [] := va_S.rf
  have hl := lv_entry ([.ref h0, va_rf q1]) (n := 3) (by cases q1 <;> exact Nat.le_of_ble_eq_true rfl)
  rw [lg_entry_eq]
  generalize (lg_sl ([.ref h0, va_rf q1]) ++ List.replicate (3 - (lg_sl ([.ref h0, va_rf q1])).length) Slot.unset).toArray = ls at hl ⊢
  have hl : lv_has ls 3 [(0, .ref h0), (1, va_rf q1)] := by cases q1 <;> exact hl
  refine ty_aload_nq hx hb dX2_meets_0 rfl (lv_at hl 1 rfl) ?_
  refine ty_ifnonnull (tgt := 6) hx hb dX2_meets_1 (by decide) (fun b1 h2 => ?_) (fun h2 => ?_)
  · skip
    subst h2
    have t_b1 : ty Γ b1 5 := t_q1 b1 rfl
    have hl : lv_has ls 3 [(0, .ref h0), (1, .ref b1)] := hl
    refine lv_aload_n hx hb dX2_meets_6 rfl (lv_at hl 1 rfl) ?_
    refine get_X7_0 hx hb hA hown hE hG t_b1 wd_3_87 dX2_meets_7 (fun x3 => ?_)
    refine ty_iconst hx hb (-1) dX2_meets_10 (by decide) (fun x4 h5 => ?_)
    refine ty_icmp_eq (tgt := 28) hx hb dX2_meets_11 (by decide) (fun c6 => ?_) (fun c6 => ?_)
    · skip
      refine ty_iconst hx hb (1) dX2_meets_28 (by decide) (fun x7 h8 => ?_)
      refine lv_goto (tgt := 33) hx hb dX2_meets_29 (by decide) ?_
      refine lv_istore_n (lv' := [(2, .int x7), (0, .ref h0), (1, .ref b1)]) hx hb dX2_meets_33 rfl hl (by decide) rfl (fun ls hl => ?_)
      refine lv_iload_n hx hb dX2_meets_34 rfl (lv_at hl 0 rfl) ?_
      refine ty_if_eq (tgt := 78) hx hb dX2_meets_35 (by decide) (fun c9 => ?_) (fun c9 => ?_)
      · exfalso; omega
      · skip
        refine lv_aload_n hx hb dX2_meets_38 rfl (lv_at hl 1 rfl) ?_
        refine get_X2_3 hx hb hA hown hE hG t_h0 wd_3_25 dX2_meets_39 (fun x10 => ?_)
        refine lv_aload_n hx hb dX2_meets_42 rfl (lv_at hl 2 rfl) ?_
        refine get_X7_1 hx hb hA hown hE hG t_b1 wd_3_89 dX2_meets_43 (fun x11 => ?_)
        refine ty_icmp_lt (tgt := 78) hx hb dX2_meets_46 (by decide) (fun c12 => ?_) (fun c12 => ?_)
        · skip
          refine ty_iconst hx hb (0) dX2_meets_78 (by decide) (fun x13 h14 => ?_)
          exact W.zret (v := x13) hx hb hr (ty_nb (by omega)).1 (fun t ht hW => ⟨⟨x13, g, rfl, ⟨rfl, (by omega)⟩, ok1 ht hG⟩, hS.F ht⟩) hS.2.2 dX2_meets_79
        · skip
          refine lv_aload_n hx hb dX2_meets_49 rfl (lv_at hl 1 rfl) ?_
          refine get_X2_3 hx hb hA hown hE hG t_h0 wd_3_25 dX2_meets_50 (fun x15 => ?_)
          refine lv_aload_n hx hb dX2_meets_53 rfl (lv_at hl 2 rfl) ?_
          refine get_X7_2 hx hb hA hown hE hG t_b1 wd_3_91 dX2_meets_54 (fun x16 => ?_)
          refine ty_icmp_gt (tgt := 78) hx hb dX2_meets_57 (by decide) (fun c17 => ?_) (fun c17 => ?_)
          · skip
            refine ty_iconst hx hb (0) dX2_meets_78 (by decide) (fun x18 h19 => ?_)
            exact W.zret (v := x18) hx hb hr (ty_nb (by omega)).1 (fun t ht hW => ⟨⟨x18, g, rfl, ⟨rfl, (by omega)⟩, ok1 ht hG⟩, hS.F ht⟩) hS.2.2 dX2_meets_79
          · skip
            refine lv_aload_n hx hb dX2_meets_60 rfl (lv_at hl 1 rfl) ?_
            refine get_X2_2 hx hb hA hown hE hG t_h0 wd_3_23 dX2_meets_61 (fun b20 (t_b20 : ty Γ b20 2) => ?_)
            refine get_X1_2 hx hb hA hown hE hG t_b20 wd_1_216 dX2_meets_64 (fun x21 => ?_)
            refine lv_aload_n hx hb dX2_meets_67 rfl (lv_at hl 2 rfl) ?_
            refine get_X7_3 hx hb hA hown hE hG t_b1 wd_3_93 dX2_meets_68 (fun x22 => ?_)
            refine ty_icmp_lt (tgt := 78) hx hb dX2_meets_71 (by decide) (fun c23 => ?_) (fun c23 => ?_)
            · skip
              refine ty_iconst hx hb (0) dX2_meets_78 (by decide) (fun x24 h25 => ?_)
              exact W.zret (v := x24) hx hb hr (ty_nb (by omega)).1 (fun t ht hW => ⟨⟨x24, g, rfl, ⟨rfl, (by omega)⟩, ok1 ht hG⟩, hS.F ht⟩) hS.2.2 dX2_meets_79
            · skip
              refine ty_iconst hx hb (1) dX2_meets_74 (by decide) (fun x26 h27 => ?_)
              refine lv_goto (tgt := 79) hx hb dX2_meets_75 (by decide) ?_
              exact W.zret (v := x26) hx hb hr (ty_nb (by omega)).1 (fun t ht hW => ⟨⟨x26, g, rfl, ⟨rfl, (by omega)⟩, ok1 ht hG⟩, hS.F ht⟩) hS.2.2 dX2_meets_79
    · skip
      refine lv_aload_n hx hb dX2_meets_14 rfl (lv_at hl 1 rfl) ?_
      refine get_X7_0 hx hb hA hown hE hG t_b1 wd_3_87 dX2_meets_15 (fun x28 => ?_)
      refine lv_aload_n hx hb dX2_meets_18 rfl (lv_at hl 0 rfl) ?_
      refine get_X2_2 hx hb hA hown hE hG t_h0 wd_3_23 dX2_meets_19 (fun b29 (t_b29 : ty Γ b29 2) => ?_)
      refine get_X1_1 hx hb hA hown hE hG t_b29 wd_1_214 dX2_meets_22 (fun x30 => ?_)
      refine ty_icmp_ne (tgt := 32) hx hb dX2_meets_25 (by decide) (fun c31 => ?_) (fun c31 => ?_)
      · skip
        refine ty_iconst hx hb (0) dX2_meets_32 (by decide) (fun x32 h33 => ?_)
        refine lv_istore_n (lv' := [(2, .int x32), (0, .ref h0), (1, .ref b1)]) hx hb dX2_meets_33 rfl hl (by decide) rfl (fun ls hl => ?_)
        refine lv_iload_n hx hb dX2_meets_34 rfl (lv_at hl 0 rfl) ?_
        refine ty_if_eq (tgt := 78) hx hb dX2_meets_35 (by decide) (fun c34 => ?_) (fun c34 => ?_)
        · skip
          refine ty_iconst hx hb (0) dX2_meets_78 (by decide) (fun x35 h36 => ?_)
          exact W.zret (v := x35) hx hb hr (ty_nb (by omega)).1 (fun t ht hW => ⟨⟨x35, g, rfl, ⟨rfl, (by omega)⟩, ok1 ht hG⟩, hS.F ht⟩) hS.2.2 dX2_meets_79
        · exfalso; omega
      · skip
        refine ty_iconst hx hb (1) dX2_meets_28 (by decide) (fun x37 h38 => ?_)
        refine lv_goto (tgt := 33) hx hb dX2_meets_29 (by decide) ?_
        refine lv_istore_n (lv' := [(2, .int x37), (0, .ref h0), (1, .ref b1)]) hx hb dX2_meets_33 rfl hl (by decide) rfl (fun ls hl => ?_)
        refine lv_iload_n hx hb dX2_meets_34 rfl (lv_at hl 0 rfl) ?_
        refine ty_if_eq (tgt := 78) hx hb dX2_meets_35 (by decide) (fun c39 => ?_) (fun c39 => ?_)
        · exfalso; omega
        · skip
          refine lv_aload_n hx hb dX2_meets_38 rfl (lv_at hl 1 rfl) ?_
          refine get_X2_3 hx hb hA hown hE hG t_h0 wd_3_25 dX2_meets_39 (fun x40 => ?_)
          refine lv_aload_n hx hb dX2_meets_42 rfl (lv_at hl 2 rfl) ?_
          refine get_X7_1 hx hb hA hown hE hG t_b1 wd_3_89 dX2_meets_43 (fun x41 => ?_)
          refine ty_icmp_lt (tgt := 78) hx hb dX2_meets_46 (by decide) (fun c42 => ?_) (fun c42 => ?_)
          · skip
            refine ty_iconst hx hb (0) dX2_meets_78 (by decide) (fun x43 h44 => ?_)
            exact W.zret (v := x43) hx hb hr (ty_nb (by omega)).1 (fun t ht hW => ⟨⟨x43, g, rfl, ⟨rfl, (by omega)⟩, ok1 ht hG⟩, hS.F ht⟩) hS.2.2 dX2_meets_79
          · skip
            refine lv_aload_n hx hb dX2_meets_49 rfl (lv_at hl 1 rfl) ?_
            refine get_X2_3 hx hb hA hown hE hG t_h0 wd_3_25 dX2_meets_50 (fun x45 => ?_)
            refine lv_aload_n hx hb dX2_meets_53 rfl (lv_at hl 2 rfl) ?_
            refine get_X7_2 hx hb hA hown hE hG t_b1 wd_3_91 dX2_meets_54 (fun x46 => ?_)
            refine ty_icmp_gt (tgt := 78) hx hb dX2_meets_57 (by decide) (fun c47 => ?_) (fun c47 => ?_)
            · skip
              refine ty_iconst hx hb (0) dX2_meets_78 (by decide) (fun x48 h49 => ?_)
              exact W.zret (v := x48) hx hb hr (ty_nb (by omega)).1 (fun t ht hW => ⟨⟨x48, g, rfl, ⟨rfl, (by omega)⟩, ok1 ht hG⟩, hS.F ht⟩) hS.2.2 dX2_meets_79
            · skip
              refine lv_aload_n hx hb dX2_meets_60 rfl (lv_at hl 1 rfl) ?_
              refine get_X2_2 hx hb hA hown hE hG t_h0 wd_3_23 dX2_meets_61 (fun b50 (t_b50 : ty Γ b50 2) => ?_)
              refine get_X1_2 hx hb hA hown hE hG t_b50 wd_1_216 dX2_meets_64 (fun x51 => ?_)
              refine lv_aload_n hx hb dX2_meets_67 rfl (lv_at hl 2 rfl) ?_
              refine get_X7_3 hx hb hA hown hE hG t_b1 wd_3_93 dX2_meets_68 (fun x52 => ?_)
              refine ty_icmp_lt (tgt := 78) hx hb dX2_meets_71 (by decide) (fun c53 => ?_) (fun c53 => ?_)
              · skip
                refine ty_iconst hx hb (0) dX2_meets_78 (by decide) (fun x54 h55 => ?_)
                exact W.zret (v := x54) hx hb hr (ty_nb (by omega)).1 (fun t ht hW => ⟨⟨x54, g, rfl, ⟨rfl, (by omega)⟩, ok1 ht hG⟩, hS.F ht⟩) hS.2.2 dX2_meets_79
              · skip
                refine ty_iconst hx hb (1) dX2_meets_74 (by decide) (fun x56 h57 => ?_)
                refine lv_goto (tgt := 79) hx hb dX2_meets_75 (by decide) ?_
                exact W.zret (v := x56) hx hb hr (ty_nb (by omega)).1 (fun t ht hW => ⟨⟨x56, g, rfl, ⟨rfl, (by omega)⟩, ok1 ht hG⟩, hS.F ht⟩) hS.2.2 dX2_meets_79
  · skip
    subst h2
    have hl : lv_has ls 3 [(0, .ref h0), (1, .null)] := hl
    refine ty_iconst hx hb (0) dX2_meets_4 (by decide) (fun x58 h59 => ?_)
    exact W.zret (v := x58) hx hb hr (ty_nb (by omega)).1 (fun t ht hW => ⟨⟨x58, g, rfl, ⟨rfl, (by omega)⟩, ok1 ht hG⟩, hS.F ht⟩) hS.2.2 dX2_meets_5

set_option maxHeartbeats 4000000 in
set_option maxRecDepth 100000 in
/-- WeekBank$Gift.goTo:  -/
theorem k_X2_goTo (l : Launch) (dC : Nat → ClassId) (dI : Nat → Nat → Nat) (dA : Nat → ClassId) (sz : Nat) (X : va_W) (Γ : ty_G) (hU : Un Γ) (g : gh) (h0 : Nat) (t_h0 : ty Γ h0 4) (p1 : Nat) (t_p1 : ty Γ p1 3) : Met l yX2_goTo (.code yX2_goTo cX2_goTo 2 (Option.none : Option Jvm.ClassFile.FieldType) :: AL) ({ frames := 0, cells := 0, slots := 0, locals := 0 }) (PCx dC dI dA sz X Γ g [.ref h0, .ref p1]) (va_Qv (fun (u : gh) => u = g) (okb dC dI dA sz X Γ) (ty_A sz)) 0 0 (ty_A sz) := by
  refine Met.ofW (cc := cX2_goTo) (maxL := 2) (ret := (Option.none : Option Jvm.ClassFile.FieldType)) (by decide) rfl ?_
  intro p e s m args below meth c s₁ B hml hv
  obtain ⟨rfl, hG, hE⟩ := hv
  have hx := B.exec
  have hb := B.bytes
  have hr := B.returns
  have hts := atoms_spec B.pre
  have hA : ∀ w ∈ AL, w.before _ s = true := fun w h => hts w (List.mem_cons_of_mem _ h)
  have hown : s.vm.findClass RX2 = some m.cls := findClass_of_methodNamed B.named
  have hlocks := B.notSynchronized
  have hS : va_S (ty_A sz) s.heap s.heap [] := va_S.rf
  have hl := lv_entry ([.ref h0, .ref p1]) (n := 2) (Nat.le_of_ble_eq_true rfl)
  rw [lg_entry_eq]
  generalize (lg_sl ([.ref h0, .ref p1]) ++ List.replicate (2 - (lg_sl ([.ref h0, .ref p1])).length) Slot.unset).toArray = ls at hl ⊢
  have hl : lv_has ls 2 [(0, .ref h0), (1, .ref p1)] := hl
  refine lv_aload_n hx hb dX2_goTo_0 rfl (lv_at hl 0 rfl) ?_
  refine ty_iconst hx hb (3) dX2_goTo_1 (by decide) (fun x1 h2 => ?_)
  refine put_X2_6 hx hb hA hown hE hG hS t_h0 wd_3_32 dX2_goTo_2 (fun H locs hG hS => ?_)
  refine lv_aload_n hx hb dX2_goTo_5 rfl (lv_at hl 0 rfl) ?_
  refine lv_aload_n hx hb dX2_goTo_6 rfl (lv_at hl 1 rfl) ?_
  refine put_X2_9 (r := some p1) hx hb hA hown hE hG hS t_h0 wd_3_41 (fun _ h => by cases h; exact t_p1) dX2_goTo_7 (fun H locs hG hS => ?_)
  refine lv_aload_n hx hb dX2_goTo_10 rfl (lv_at hl 1 rfl) ?_
  refine lv_dup hx hb dX2_goTo_11 rfl ?_
  refine get_X3_2 hx hb hA hown hE hG t_p1 wd_2_11 dX2_goTo_12 (fun x3 => ?_)
  refine lv_aload_n hx hb dX2_goTo_15 rfl (lv_at hl 0 rfl) ?_
  refine get_X2_5 hx hb hA hown hE hG t_h0 wd_3_29 dX2_goTo_16 (fun x4 => ?_)
  refine ty_isub hx hb dX2_goTo_19 (fun x5 h6 => ?_)
  refine put_X3_2 hx hb hA hown hE hG hS t_p1 wd_2_11 dX2_goTo_20 (fun H locs hG hS => ?_)
  exact W.vret hx hb hr (fun t ht hW => ⟨⟨g, rfl, rfl, ok1 ht hG⟩, hS.F ht⟩) hS.2.2 dX2_goTo_23

set_option maxHeartbeats 4000000 in
set_option maxRecDepth 100000 in
/-- WeekBank$Gift.endByShutting:  -/
theorem k_X2_endByShutting (l : Launch) (dC : Nat → ClassId) (dI : Nat → Nat → Nat) (dA : Nat → ClassId) (sz : Nat) (X : va_W) (Γ : ty_G) (hU : Un Γ) (g : gh) (h0 : Nat) (t_h0 : ty Γ h0 4) : Met l yX2_endByShutting (.code yX2_endByShutting cX2_endByShutting 1 (Option.none : Option Jvm.ClassFile.FieldType) :: AL) ({ frames := 1, cells := 0, slots := 0, locals := 20 }) (PCx dC dI dA sz X Γ g [.ref h0]) (va_Qv (fun (u : gh) => u = g) (okb dC dI dA sz X Γ) (ty_A sz)) 0 0 (ty_A sz) := by
  refine Met.ofW (cc := cX2_endByShutting) (maxL := 1) (ret := (Option.none : Option Jvm.ClassFile.FieldType)) (by decide) rfl ?_
  intro p e s m args below meth c s₁ B hml hv
  obtain ⟨rfl, hG, hE⟩ := hv
  have hx := B.exec
  have hb := B.bytes
  have hr := B.returns
  have hts := atoms_spec B.pre
  have hA : ∀ w ∈ AL, w.before _ s = true := fun w h => hts w (List.mem_cons_of_mem _ h)
  have hown : s.vm.findClass RX2 = some m.cls := findClass_of_methodNamed B.named
  have hlocks := B.notSynchronized
  have hS : va_S (ty_A sz) s.heap s.heap [] := va_S.rf
  have hl := lv_entry ([.ref h0]) (n := 1) (Nat.le_of_ble_eq_true rfl)
  rw [lg_entry_eq]
  generalize (lg_sl ([.ref h0]) ++ List.replicate (1 - (lg_sl ([.ref h0])).length) Slot.unset).toArray = ls at hl ⊢
  have hl : lv_has ls 1 [(0, .ref h0)] := hl
  refine lv_aload_n hx hb dX2_endByShutting_0 rfl (lv_at hl 0 rfl) ?_
  refine cI (va_runV (C := RX2) (As := []) (rest := []) ⟨hx, hb, hml, hown, hA⟩ (k_X2_isGot l dC dI dA sz X Γ hU g h0 t_h0   ) ⟨callB_of 0 hA (al_A wd_2_67) rfl rfl rfl (hA _ wd_1_15) (hA _ wd_2_64) (by decide +kernel) ⟨Nat.le_of_ble_eq_true rfl, Nat.le_of_ble_eq_true rfl⟩, hA _ wd_2_65, hA _ wd_2_66⟩ ⟨bl, recv_X2 hE hG t_h0, fun U hU9 hW9 => ⟨rfl, by rw [hU9]; exact hG, hE.go hS hU9 hW9⟩⟩ rfl rfl hl.1 rfl (lv_room (Nat.le_of_ble_eq_true rfl)) dX2_endByShutting_1 ⟨Nat.zero_le _, Nat.zero_le _⟩) hS (fun x3 u1 H locs w2 hG hS => ?_)
  obtain ⟨eu4, w2⟩ := w2
  rw [eu4] at hG
  refine ty_if_eq (tgt := 36) hx hb dX2_endByShutting_4 (by decide) (fun c5 => ?_) (fun c5 => ?_)
  · skip
    refine lv_aload_n hx hb dX2_endByShutting_36 rfl (lv_at hl 0 rfl) ?_
    refine get_X2_6 hx hb hA hown hE hG t_h0 wd_3_32 dX2_endByShutting_37 (fun x6 => ?_)
    refine ty_iconst hx hb (2) dX2_endByShutting_40 (by decide) (fun x7 h8 => ?_)
    refine ty_icmp_ne (tgt := 67) hx hb dX2_endByShutting_41 (by decide) (fun c9 => ?_) (fun c9 => ?_)
    · skip
      refine lv_aload_n hx hb dX2_endByShutting_67 rfl (lv_at hl 0 rfl) ?_
      refine ty_iconst hx hb (4) dX2_endByShutting_68 (by decide) (fun x10 h11 => ?_)
      refine put_X2_6 hx hb hA hown hE hG hS t_h0 wd_3_32 dX2_endByShutting_69 (fun H locs hG hS => ?_)
      exact W.vret hx hb hr (fun t ht hW => ⟨⟨g, rfl, rfl, ok1 ht hG⟩, hS.F ht⟩) hS.2.2 dX2_endByShutting_72
    · skip
      refine lv_aload_n hx hb dX2_endByShutting_44 rfl (lv_at hl 0 rfl) ?_
      refine get_X2_1 hx hb hA hown hE hG t_h0 wd_3_20 dX2_endByShutting_45 (fun b12 (t_b12 : ty Γ b12 3) => ?_)
      refine ty_iconst hx hb (0) dX2_endByShutting_48 (by decide) (fun x13 h14 => ?_)
      refine lv_aload_n hx hb dX2_endByShutting_49 rfl (lv_at hl 0 rfl) ?_
      refine get_X2_1 hx hb hA hown hE hG t_h0 wd_3_20 dX2_endByShutting_50 (fun b15 (t_b15 : ty Γ b15 3) => ?_)
      refine get_X3_2 hx hb hA hown hE hG t_b15 wd_2_11 dX2_endByShutting_53 (fun x16 => ?_)
      refine lv_aload_n hx hb dX2_endByShutting_56 rfl (lv_at hl 0 rfl) ?_
      refine get_X2_5 hx hb hA hown hE hG t_h0 wd_3_29 dX2_endByShutting_57 (fun x17 => ?_)
      refine ty_isub hx hb dX2_endByShutting_60 (fun x18 h19 => ?_)
      refine va_mmax hx hb (hml.trans hl.1.symm) hown (hA _ wd_3_216) (hA _ wd_2_199) (hA _ wd_1_14) (hA _ wd_2_200) (Nat.le_of_ble_eq_true rfl) (Nat.le_of_ble_eq_true rfl) (Nat.zero_le _) (Nat.zero_le _) dX2_endByShutting_61 ?_
      refine lv_topi (fun x21 h22 => ?_)
      have h22 : x21.toInt = if x13.toInt < x18.toInt then x18.toInt else x13.toInt := by rw [h22]; simp only [ty_lt32]; split <;> rfl
      refine put_X3_2 hx hb hA hown hE hG hS t_b12 wd_2_11 dX2_endByShutting_64 (fun H locs hG hS => ?_)
      refine lv_aload_n hx hb dX2_endByShutting_67 rfl (lv_at hl 0 rfl) ?_
      refine ty_iconst hx hb (4) dX2_endByShutting_68 (by decide) (fun x23 h24 => ?_)
      refine put_X2_6 hx hb hA hown hE hG hS t_h0 wd_3_32 dX2_endByShutting_69 (fun H locs hG hS => ?_)
      exact W.vret hx hb hr (fun t ht hW => ⟨⟨g, rfl, rfl, ok1 ht hG⟩, hS.F ht⟩) hS.2.2 dX2_endByShutting_72
  · skip
    refine lv_aload_n hx hb dX2_endByShutting_7 rfl (lv_at hl 0 rfl) ?_
    obtain ⟨fs25, fs25a, fs25l, fs25F⟩ := pin_X2 hG t_h0
    obtain ⟨r26, e_r26, t_r26⟩ : vN Γ 3 (vp_V fs25 9) := fs25F 9 (by decide)
    refine gep_X2 hx hb hA hE fs25a hown 9 (by decide) wd_3_41 rfl (va_rf r26) (vp_at fs25l (by decide) e_r26) dX2_endByShutting_8 ?_
    refine ty_ifnull (tgt := 30) hx hb dX2_endByShutting_11 (by decide) (fun h28 => ?_) (fun b27 h28 => ?_)
    · skip
      subst h28
      have hl : lv_has ls 1 [(0, .ref h0)] := hl
      refine lv_aload_n hx hb dX2_endByShutting_30 rfl (lv_at hl 0 rfl) ?_
      refine ty_iconst hx hb (5) dX2_endByShutting_31 (by decide) (fun x29 h30 => ?_)
      refine put_X2_6 hx hb hA hown hE hG hS t_h0 wd_3_32 dX2_endByShutting_32 (fun H locs hG hS => ?_)
      exact W.vret hx hb hr (fun t ht hW => ⟨⟨g, rfl, rfl, ok1 ht hG⟩, hS.F ht⟩) hS.2.2 dX2_endByShutting_35
    · skip
      subst h28
      have t_b27 : ty Γ b27 3 := t_r26 b27 rfl
      have hl : lv_has ls 1 [(0, .ref h0)] := hl
      refine lv_aload_n hx hb dX2_endByShutting_14 rfl (lv_at hl 0 rfl) ?_
      refine gep_X2 hx hb hA hE fs25a hown 9 (by decide) wd_3_41 rfl (.ref b27) (vp_at fs25l (by decide) e_r26) dX2_endByShutting_15 ?_
      refine lv_dup hx hb dX2_endByShutting_18 rfl ?_
      refine get_X3_2 hx hb hA hown hE hG t_b27 wd_2_11 dX2_endByShutting_19 (fun x31 => ?_)
      refine lv_aload_n hx hb dX2_endByShutting_22 rfl (lv_at hl 0 rfl) ?_
      refine get_X2_5 hx hb hA hown hE hG t_h0 wd_3_29 dX2_endByShutting_23 (fun x32 => ?_)
      refine ty_iadd hx hb dX2_endByShutting_26 (fun x33 h34 => ?_)
      refine put_X3_2 hx hb hA hown hE hG hS t_b27 wd_2_11 dX2_endByShutting_27 (fun H locs hG hS => ?_)
      refine lv_aload_n hx hb dX2_endByShutting_30 rfl (lv_at hl 0 rfl) ?_
      refine ty_iconst hx hb (5) dX2_endByShutting_31 (by decide) (fun x36 h37 => ?_)
      refine put_X2_6 hx hb hA hown hE hG hS t_h0 wd_3_32 dX2_endByShutting_32 (fun H locs hG hS => ?_)
      exact W.vret hx hb hr (fun t ht hW => ⟨⟨g, rfl, rfl, ok1 ht hG⟩, hS.F ht⟩) hS.2.2 dX2_endByShutting_35

set_option maxHeartbeats 4000000 in
set_option maxRecDepth 100000 in
/-- WeekBank$Flat.passTo:  -/
theorem k_X1_passTo (l : Launch) (dC : Nat → ClassId) (dI : Nat → Nat → Nat) (dA : Nat → ClassId) (sz : Nat) (X : va_W) (Γ : ty_G) (hU : Un Γ) (g : gh) (h0 : Nat) (t_h0 : ty Γ h0 2) (p1 : Int32) (q2 : Option Nat) (t_q2 : ∀ b, q2 = some b → (Γ b).1 = 3) : Met l yX1_passTo (.code yX1_passTo cX1_passTo 4 (Option.none : Option Jvm.ClassFile.FieldType) :: AL) ({ frames := 1, cells := 0, slots := 0, locals := 20 }) (PCx dC dI dA sz X Γ g [.ref h0, .int p1, va_rf q2]) (va_Qv (fun (u : gh) => u = g) (okb dC dI dA sz X Γ) (ty_A sz)) 0 0 (ty_A sz) := by
  refine Met.ofW (cc := cX1_passTo) (maxL := 4) (ret := (Option.none : Option Jvm.ClassFile.FieldType)) (by decide) rfl ?_
  intro p e s m args below meth c s₁ B hml hv
  obtain ⟨rfl, hG, hE⟩ := hv
  have hx := B.exec
  have hb := B.bytes
  have hr := B.returns
  have hts := atoms_spec B.pre
  have hA : ∀ w ∈ AL, w.before _ s = true := fun w h => hts w (List.mem_cons_of_mem _ h)
  have hown : s.vm.findClass RX1 = some m.cls := findClass_of_methodNamed B.named
  have hlocks := B.notSynchronized
  have hS : va_S (ty_A sz) s.heap s.heap [] := va_S.rf
  have hl := lv_entry ([.ref h0, .int p1, va_rf q2]) (n := 4) (by cases q2 <;> exact Nat.le_of_ble_eq_true rfl)
  rw [lg_entry_eq]
  generalize (lg_sl ([.ref h0, .int p1, va_rf q2]) ++ List.replicate (4 - (lg_sl ([.ref h0, .int p1, va_rf q2])).length) Slot.unset).toArray = ls at hl ⊢
  have hl : lv_has ls 4 [(0, .ref h0), (1, .int p1), (2, va_rf q2)] := by cases q2 <;> exact hl
  refine lv_iload_n hx hb dX1_passTo_0 rfl (lv_at hl 1 rfl) ?_
  refine cI (va_runSN (As := [.int p1]) (rest := []) ⟨hx, hb, hml, hown, hA⟩ (k_X8_isWeek l dC dI dA sz X Γ hU g p1   ) ⟨va_cnB 1 hA (al_A wd_2_59) rfl rfl rfl hE.2.1.2.2.2.1 (hA _ wd_1_1) (by decide +kernel) ⟨Nat.le_of_ble_eq_true rfl, Nat.le_of_ble_eq_true rfl⟩, hA _ wd_2_58, trivial⟩ ⟨bl, fun U hU9 hW9 => ⟨rfl, by rw [hU9]; exact hG, hE.go hS hU9 hW9⟩⟩ rfl rfl hl.1 rfl (lv_room (Nat.le_of_ble_eq_true rfl)) dX1_passTo_1 ⟨Nat.zero_le _, Nat.zero_le _⟩) hS (fun x3 u1 H locs w2 hG hS => ?_)
  obtain ⟨eu4, w2⟩ := w2
  rw [eu4] at hG
  refine ty_if_ne (tgt := 8) hx hb dX1_passTo_4 (by decide) (fun c5 => ?_) (fun c5 => ?_)
  · skip
    refine lv_aload_n hx hb dX1_passTo_8 rfl (lv_at hl 0 rfl) ?_
    refine get_X1_3 hx hb hA hown hE hG t_h0 wd_1_218 dX1_passTo_9 (fun b6 (t_b6 : ty Γ b6 13) => ?_)
    refine lv_iload_n hx hb dX1_passTo_12 rfl (lv_at hl 1 rfl) ?_
    refine ald_13 hx hb hE hG t_b6 (by omega) dX1_passTo_13 (fun j8 r7 h9 t_r7 => ?_)
    refine ty_astore_nq (lv' := [(3, va_rf r7), (0, .ref h0), (1, .int p1), (2, va_rf q2)]) hx hb dX1_passTo_14 rfl hl (by decide) (by cases q2 <;> rfl) (fun ls hl => ?_)
    refine ty_aload_nq hx hb dX1_passTo_15 rfl (lv_at hl 0 rfl) ?_
    refine ty_ifnull (tgt := 29) hx hb dX1_passTo_16 (by decide) (fun h12 => ?_) (fun b11 h12 => ?_)
    · skip
      subst h12
      have hl : lv_has ls 4 [(3, .null), (0, .ref h0), (1, .int p1), (2, va_rf q2)] := hl
      refine ty_aload_nq hx hb dX1_passTo_29 rfl (lv_at hl 3 rfl) ?_
      refine ty_ifnull (tgt := 43) hx hb dX1_passTo_30 (by decide) (fun h14 => ?_) (fun b13 h14 => ?_)
      · skip
        subst h14
        have hl : lv_has ls 4 [(3, .null), (0, .ref h0), (1, .int p1), (2, .null)] := hl
        refine lv_aload_n hx hb dX1_passTo_43 rfl (lv_at hl 1 rfl) ?_
        refine get_X1_3 hx hb hA hown hE hG t_h0 wd_1_218 dX1_passTo_44 (fun b15 (t_b15 : ty Γ b15 13) => ?_)
        refine lv_iload_n hx hb dX1_passTo_47 rfl (lv_at hl 2 rfl) ?_
        refine lv_aload_nN hx hb dX1_passTo_48 rfl (lv_at hl 3 rfl) ?_
        refine ast_13 (r := none) hx hb hE hG hS t_b15 (fun _ h => by cases h) (by omega) dX1_passTo_49 (fun H locs hG hS => ?_)
        exact W.vret hx hb hr (fun t ht hW => ⟨⟨g, rfl, rfl, ok1 ht hG⟩, hS.F ht⟩) hS.2.2 dX1_passTo_50
      · skip
        subst h14
        have t_b13 : ty Γ b13 3 := t_q2 b13 rfl
        have hl : lv_has ls 4 [(3, .null), (0, .ref h0), (1, .int p1), (2, .ref b13)] := hl
        refine lv_aload_n hx hb dX1_passTo_33 rfl (lv_at hl 3 rfl) ?_
        refine lv_dup hx hb dX1_passTo_34 rfl ?_
        refine get_X3_4 hx hb hA hown hE hG t_b13 wd_2_16 dX1_passTo_35 (fun x16 => ?_)
        refine ty_iconst hx hb (1) dX1_passTo_38 (by decide) (fun x17 h18 => ?_)
        refine ty_iadd hx hb dX1_passTo_39 (fun x19 h20 => ?_)
        refine put_X3_4 hx hb hA hown hE hG hS t_b13 wd_2_16 dX1_passTo_40 (fun H locs hG hS => ?_)
        refine lv_aload_n hx hb dX1_passTo_43 rfl (lv_at hl 1 rfl) ?_
        refine get_X1_3 hx hb hA hown hE hG t_h0 wd_1_218 dX1_passTo_44 (fun b22 (t_b22 : ty Γ b22 13) => ?_)
        refine lv_iload_n hx hb dX1_passTo_47 rfl (lv_at hl 2 rfl) ?_
        refine lv_aload_n hx hb dX1_passTo_48 rfl (lv_at hl 3 rfl) ?_
        refine ast_13 (r := some b13) hx hb hE hG hS t_b22 (fun _ h => by cases h; exact t_b13) (by omega) dX1_passTo_49 (fun H locs hG hS => ?_)
        exact W.vret hx hb hr (fun t ht hW => ⟨⟨g, rfl, rfl, ok1 ht hG⟩, hS.F ht⟩) hS.2.2 dX1_passTo_50
    · skip
      subst h12
      have t_b11 : ty Γ b11 3 := t_r7 b11 rfl
      have hl : lv_has ls 4 [(3, .ref b11), (0, .ref h0), (1, .int p1), (2, va_rf q2)] := hl
      refine lv_aload_n hx hb dX1_passTo_19 rfl (lv_at hl 0 rfl) ?_
      refine lv_dup hx hb dX1_passTo_20 rfl ?_
      refine get_X3_4 hx hb hA hown hE hG t_b11 wd_2_16 dX1_passTo_21 (fun x23 => ?_)
      refine ty_iconst hx hb (1) dX1_passTo_24 (by decide) (fun x24 h25 => ?_)
      refine ty_isub hx hb dX1_passTo_25 (fun x26 h27 => ?_)
      refine put_X3_4 hx hb hA hown hE hG hS t_b11 wd_2_16 dX1_passTo_26 (fun H locs hG hS => ?_)
      refine ty_aload_nq hx hb dX1_passTo_29 rfl (lv_at hl 3 rfl) ?_
      refine ty_ifnull (tgt := 43) hx hb dX1_passTo_30 (by decide) (fun h30 => ?_) (fun b29 h30 => ?_)
      · skip
        subst h30
        have hl : lv_has ls 4 [(3, .ref b11), (0, .ref h0), (1, .int p1), (2, .null)] := hl
        refine lv_aload_n hx hb dX1_passTo_43 rfl (lv_at hl 1 rfl) ?_
        refine get_X1_3 hx hb hA hown hE hG t_h0 wd_1_218 dX1_passTo_44 (fun b31 (t_b31 : ty Γ b31 13) => ?_)
        refine lv_iload_n hx hb dX1_passTo_47 rfl (lv_at hl 2 rfl) ?_
        refine lv_aload_nN hx hb dX1_passTo_48 rfl (lv_at hl 3 rfl) ?_
        refine ast_13 (r := none) hx hb hE hG hS t_b31 (fun _ h => by cases h) (by omega) dX1_passTo_49 (fun H locs hG hS => ?_)
        exact W.vret hx hb hr (fun t ht hW => ⟨⟨g, rfl, rfl, ok1 ht hG⟩, hS.F ht⟩) hS.2.2 dX1_passTo_50
      · skip
        subst h30
        have t_b29 : ty Γ b29 3 := t_q2 b29 rfl
        have hl : lv_has ls 4 [(3, .ref b11), (0, .ref h0), (1, .int p1), (2, .ref b29)] := hl
        refine lv_aload_n hx hb dX1_passTo_33 rfl (lv_at hl 3 rfl) ?_
        refine lv_dup hx hb dX1_passTo_34 rfl ?_
        refine get_X3_4 hx hb hA hown hE hG t_b29 wd_2_16 dX1_passTo_35 (fun x32 => ?_)
        refine ty_iconst hx hb (1) dX1_passTo_38 (by decide) (fun x33 h34 => ?_)
        refine ty_iadd hx hb dX1_passTo_39 (fun x35 h36 => ?_)
        refine put_X3_4 hx hb hA hown hE hG hS t_b29 wd_2_16 dX1_passTo_40 (fun H locs hG hS => ?_)
        refine lv_aload_n hx hb dX1_passTo_43 rfl (lv_at hl 1 rfl) ?_
        refine get_X1_3 hx hb hA hown hE hG t_h0 wd_1_218 dX1_passTo_44 (fun b38 (t_b38 : ty Γ b38 13) => ?_)
        refine lv_iload_n hx hb dX1_passTo_47 rfl (lv_at hl 2 rfl) ?_
        refine lv_aload_n hx hb dX1_passTo_48 rfl (lv_at hl 3 rfl) ?_
        refine ast_13 (r := some b29) hx hb hE hG hS t_b38 (fun _ h => by cases h; exact t_b29) (by omega) dX1_passTo_49 (fun H locs hG hS => ?_)
        exact W.vret hx hb hr (fun t ht hW => ⟨⟨g, rfl, rfl, ok1 ht hG⟩, hS.F ht⟩) hS.2.2 dX1_passTo_50
  · skip
    exact W.vret hx hb hr (fun t ht hW => ⟨⟨g, rfl, rfl, ok1 ht hG⟩, hS.F ht⟩) hS.2.2 dX1_passTo_7

set_option maxHeartbeats 4000000 in
set_option maxRecDepth 100000 in
/-- WeekBank$Flat.beginYear:  -/
theorem k_X1_beginYear (l : Launch) (dC : Nat → ClassId) (dI : Nat → Nat → Nat) (dA : Nat → ClassId) (sz : Nat) (X : va_W) (Γ : ty_G) (hU : Un Γ) (g : gh) (h0 : Nat) (t_h0 : ty Γ h0 2) : Met l yX1_beginYear (.code yX1_beginYear cX1_beginYear 2 (Option.none : Option Jvm.ClassFile.FieldType) :: AL) ({ frames := 0, cells := 0, slots := 0, locals := 0 }) (PCx dC dI dA sz X Γ g [.ref h0]) (va_Qv (fun (u : gh) => u = g) (okb dC dI dA sz X Γ) (ty_A sz)) 0 0 (ty_A sz) := by
  refine Met.ofW (cc := cX1_beginYear) (maxL := 2) (ret := (Option.none : Option Jvm.ClassFile.FieldType)) (by decide) rfl ?_
  intro p e s m args below meth c s₁ B hml hv
  obtain ⟨rfl, hG, hE⟩ := hv
  have hx := B.exec
  have hb := B.bytes
  have hr := B.returns
  have hts := atoms_spec B.pre
  have hA : ∀ w ∈ AL, w.before _ s = true := fun w h => hts w (List.mem_cons_of_mem _ h)
  have hown : s.vm.findClass RX1 = some m.cls := findClass_of_methodNamed B.named
  have hlocks := B.notSynchronized
  have hS : va_S (ty_A sz) s.heap s.heap [] := va_S.rf
  have hl := lv_entry ([.ref h0]) (n := 2) (Nat.le_of_ble_eq_true rfl)
  rw [lg_entry_eq]
  generalize (lg_sl ([.ref h0]) ++ List.replicate (2 - (lg_sl ([.ref h0])).length) Slot.unset).toArray = ls at hl ⊢
  have hl : lv_has ls 2 [(0, .ref h0)] := hl
  refine ty_iconst hx hb (0) dX1_beginYear_0 (by decide) (fun x1 h2 => ?_)
  refine lv_istore_n (lv' := [(1, .int x1), (0, .ref h0)]) hx hb dX1_beginYear_1 rfl hl (by decide) rfl (fun ls hl => ?_)
  have L_2 : ∀ (n : Nat) (v1_2 : Int32) (H : Heap) (locs : List Loc) (ls : Array Slot), (53 - v1_2.toInt : Int) < n → 0 ≤ v1_2.toInt ∧ v1_2.toInt ≤ 53 → ty_ok (dC, dI) vwCl Γ (TP dA Γ g) sz X H → va_S (ty_A sz) s.heap H locs → lv_has ls 2 [(1, .int v1_2), (0, .ref h0)] → W p l e (headSpec (.code yX1_beginYear cX1_beginYear 2 (Option.none : Option Jvm.ClassFile.FieldType) :: AL) ({ frames := 0, cells := 0, slots := 0, locals := 0 })).room s m ([.ref h0] : List Value).toArray below meth c H locs 0 0 (MQ below (va_Qv (fun (u : gh) => u = g) (okb dC dI dA sz X Γ) (ty_A sz)) ([.ref h0] : List Value).toArray s 0 0 (ty_A sz)) (F0 m 2 ls []) := by
    intro n
    induction n with
    | zero => intro v1_2 H locs ls hm hi0 hG hS hl; exfalso; omega
    | succ n ih_2 =>
      intro v1_2 H locs ls hm hi0 hG hS hl
      refine lv_iload_n hx hb dX1_beginYear_2 rfl (lv_at hl 0 rfl) ?_
      refine ty_bipush hx hb (53) dX1_beginYear_3 (by decide) (fun x4 h5 => ?_)
      refine ty_icmp_ge (tgt := 28) hx hb dX1_beginYear_5 (by decide) (fun c6 => ?_) (fun c6 => ?_)
      · skip
        exact W.vret hx hb hr (fun t ht hW => ⟨⟨g, rfl, rfl, ok1 ht hG⟩, hS.F ht⟩) hS.2.2 dX1_beginYear_28
      · skip
        refine lv_aload_n hx hb dX1_beginYear_8 rfl (lv_at hl 1 rfl) ?_
        refine get_X1_4 hx hb hA hown hE hG t_h0 wd_1_220 dX1_beginYear_9 (fun b7 (t_b7 : ty Γ b7 14) => ?_)
        refine lv_iload_n hx hb dX1_beginYear_12 rfl (lv_at hl 0 rfl) ?_
        refine ty_iconst hx hb (0) dX1_beginYear_13 (by decide) (fun x8 h9 => ?_)
        refine ast_14 hx hb hE hG hS t_b7 (by omega) (by omega) dX1_beginYear_14 (fun H locs hG hS => ?_)
        refine lv_aload_n hx hb dX1_beginYear_15 rfl (lv_at hl 1 rfl) ?_
        refine get_X1_5 hx hb hA hown hE hG t_h0 wd_1_222 dX1_beginYear_16 (fun b10 (t_b10 : ty Γ b10 15) => ?_)
        refine lv_iload_n hx hb dX1_beginYear_19 rfl (lv_at hl 0 rfl) ?_
        refine lv_null hx hb dX1_beginYear_20 ?_
        refine ast_15 (r := none) hx hb hE hG hS t_b10 (fun _ h => by cases h) (by omega) dX1_beginYear_21 (fun H locs hG hS => ?_)
        obtain ⟨x11, h12⟩ : ∃ y : Int32, y = v1_2 + Int32.ofInt (1) := ⟨_, rfl⟩
        try have h13 : x11.toInt = v1_2.toInt + (1) := ty_inc h12 (by decide) (by omega) (by omega)
        refine lv_iinc (v := x11) (lv' := [(1, .int x11), (0, .ref h0)]) hx hb dX1_beginYear_22 hl (k := 0) rfl h12.symm (by decide) rfl (fun ls hl => ?_)
        refine lv_goto (tgt := 2) hx hb dX1_beginYear_25 (by decide) ?_
        exact ih_2 x11 _ _ ls (by omega) (by omega) hG hS (lv_sub hl [0, 1] rfl)
  exact L_2 ((53 - x1.toInt) + 1).toNat x1 _ _ ls (by omega) (by omega) hG hS (lv_sub hl [0, 1] rfl)

set_option maxHeartbeats 4000000 in
set_option maxRecDepth 100000 in
/-- WeekBank$Wish.<init>:  -/
theorem k_X7_init (l : Launch) (dC : Nat → ClassId) (dI : Nat → Nat → Nat) (dA : Nat → ClassId) (sz : Nat) (X : va_W) (Γ : ty_G) (hU : Un Γ) (g : gh) (h0 : Nat) (p1 : Int32) (p2 : Int32) (p3 : Int32) (p4 : Int32) : Met l yX7_init (.code yX7_init cX7_init 5 (Option.none : Option Jvm.ClassFile.FieldType) :: AL) ({ frames := 1, cells := 0, slots := 0, locals := 12 }) (PCx dC dI dA sz ((h0, .inr (7, dv_X7)) :: X) Γ g [.ref h0, .int p1, .int p2, .int p3, .int p4]) (va_Qv (fun (u : (ty_G × gh)) => ext Γ u.1 ∧ Un u.1 ∧ (u.1 h0).1 = 5 ∧ u.2 = g) (okB dC dI dA sz X) (ty_A sz)) 0 0 (ty_A sz) := by
  refine Met.ofW (cc := cX7_init) (maxL := 5) (ret := (Option.none : Option Jvm.ClassFile.FieldType)) (by decide) rfl ?_
  intro p e s m args below meth c s₁ B hml hv
  obtain ⟨rfl, hG, hE⟩ := hv
  have hx := B.exec
  have hb := B.bytes
  have hr := B.returns
  have hts := atoms_spec B.pre
  have hA : ∀ w ∈ AL, w.before _ s = true := fun w h => hts w (List.mem_cons_of_mem _ h)
  have hown : s.vm.findClass RX7 = some m.cls := findClass_of_methodNamed B.named
  have hlocks := B.notSynchronized
  have hin : meth.name = "<init>" := (name_of_methodNamed B.named B.method).1
  have hS : va_S (ty_A sz) s.heap s.heap [] := va_S.rf
  have hl := lv_entry ([.ref h0, .int p1, .int p2, .int p3, .int p4]) (n := 5) (Nat.le_of_ble_eq_true rfl)
  rw [lg_entry_eq]
  generalize (lg_sl ([.ref h0, .int p1, .int p2, .int p3, .int p4]) ++ List.replicate (5 - (lg_sl ([.ref h0, .int p1, .int p2, .int p3, .int p4])).length) Slot.unset).toArray = ls at hl ⊢
  have hl : lv_has ls 5 [(0, .ref h0), (1, .int p1), (2, .int p2), (3, .int p3), (4, .int p4)] := hl
  refine lv_aload_n hx hb dX7_init_0 rfl (lv_at hl 0 rfl) ?_
  refine W.objInit hx hb hown (hA _ wd_3_85) (hA _ wd_1_28) (hA _ wd_1_29) rfl (by rw [hml]; exact hl.1) rfl dX7_init_1 (Nat.le_of_ble_eq_true rfl) (Nat.le_of_ble_eq_true rfl) ?_
  refine W.eq (g2 := F0 m 4 ls []) rfl ?_
  refine lv_aload_n hx hb dX7_init_4 rfl (lv_at hl 0 rfl) ?_
  refine lv_iload_n hx hb dX7_init_5 rfl (lv_at hl 1 rfl) ?_
  refine rw_X7 hx hb hA hE hG hS hown hin rfl 0 (by decide) wd_3_86 rfl (ty := .int) (tyX7_ok 0 (by decide)) rfl rfl (Nat.le_of_ble_eq_true rfl) dX7_init_6 (fun H locs hG hS => ?_)
  replace hG : ty_ok (dC, dI) vwCl Γ (TP dA Γ g) sz ((h0, .inr (7, [.int p1, .int 0, .int 0, .int 0])) :: X) H := hG
  refine lv_aload_n hx hb dX7_init_9 rfl (lv_at hl 0 rfl) ?_
  refine lv_iload_n hx hb dX7_init_10 rfl (lv_at hl 2 rfl) ?_
  refine rw_X7 hx hb hA hE hG hS hown hin rfl 1 (by decide) wd_3_88 rfl (ty := .int) (tyX7_ok 1 (by decide)) rfl rfl (Nat.le_of_ble_eq_true rfl) dX7_init_11 (fun H locs hG hS => ?_)
  replace hG : ty_ok (dC, dI) vwCl Γ (TP dA Γ g) sz ((h0, .inr (7, [.int p1, .int p2, .int 0, .int 0])) :: X) H := hG
  refine lv_aload_n hx hb dX7_init_14 rfl (lv_at hl 0 rfl) ?_
  refine lv_iload_n hx hb dX7_init_15 rfl (lv_at hl 3 rfl) ?_
  refine rw_X7 hx hb hA hE hG hS hown hin rfl 2 (by decide) wd_3_90 rfl (ty := .int) (tyX7_ok 2 (by decide)) rfl rfl (Nat.le_of_ble_eq_true rfl) dX7_init_16 (fun H locs hG hS => ?_)
  replace hG : ty_ok (dC, dI) vwCl Γ (TP dA Γ g) sz ((h0, .inr (7, [.int p1, .int p2, .int p3, .int 0])) :: X) H := hG
  refine lv_aload_n hx hb dX7_init_19 rfl (lv_at hl 0 rfl) ?_
  refine lv_iload hx hb dX7_init_20 (lv_at hl 4 rfl) ?_
  refine rw_X7 hx hb hA hE hG hS hown hin rfl 3 (by decide) wd_3_92 rfl (ty := .int) (tyX7_ok 3 (by decide)) rfl rfl (Nat.le_of_ble_eq_true rfl) dX7_init_22 (fun H locs hG hS => ?_)
  replace hG : ty_ok (dC, dI) vwCl Γ (TP dA Γ g) sz ((h0, .inr (7, [.int p1, .int p2, .int p3, .int p4])) :: X) H := hG
  have z_own : ty Γ h0 0 := (hG.2.2.2 _ List.mem_cons_self).2.1
  have hx1 : ext Γ (va_up Γ h0 (5, 0)) := ext.up z_own
  have hG := tp_adopt (t := (5, 0)) hG (by rw [TP_5 rfl]; exact ⟨_, rfl, rfl, fun k hk => match k, hk with
        | 0, _ => ⟨_, rfl⟩
        | 1, _ => ⟨_, rfl⟩
        | 2, _ => ⟨_, rfl⟩
        | 3, _ => ⟨_, rfl⟩
      ⟩)
  obtain ⟨Γ2, eΓ2⟩ : ∃ z, z = va_up Γ h0 (5, 0) := ⟨_, rfl⟩
  rw [← eΓ2] at hG
  have hx3 : ext Γ Γ2 := by rw [eΓ2]; exact ext.up z_own
  have hU : Un Γ2 := by rw [eΓ2]; exact Un.up0 hU rfl rfl
  have hX4 : ext Γ Γ2 := ext.trans ext.rf hx3
  have t_h0 : ty Γ2 h0 5 := by rw [eΓ2]; unfold ty; rw [va_up_self]
  clear z_own
  exact W.vret hx hb hr (fun t ht hW => ⟨⟨(Γ2, g), rfl, ⟨hX4, hU, t_h0, rfl⟩, ok2 ht hG⟩, hS.F ht⟩) hS.2.2 dX7_init_25

set_option maxHeartbeats 4000000 in
set_option maxRecDepth 100000 in
/-- WeekBank$Gift.<init>:  -/
theorem k_X2_init (l : Launch) (dC : Nat → ClassId) (dI : Nat → Nat → Nat) (dA : Nat → ClassId) (sz : Nat) (X : va_W) (Γ : ty_G) (hU : Un Γ) (g : gh) (h0 : Nat) (p1 : Int32) (p2 : Nat) (t_p2 : ty Γ p2 3) (p3 : Nat) (t_p3 : ty Γ p3 2) (p4 : Int32) : Met l yX2_init (.code yX2_init cX2_init 5 (Option.none : Option Jvm.ClassFile.FieldType) :: AL) ({ frames := 1, cells := 0, slots := 0, locals := 12 }) (PCx dC dI dA sz ((h0, .inr (2, dv_X2)) :: X) Γ g [.ref h0, .int p1, .ref p2, .ref p3, .int p4]) (va_Qv (fun (u : (ty_G × gh)) => ext Γ u.1 ∧ Un u.1 ∧ (u.1 h0).1 = 4 ∧ u.2 = g) (okB dC dI dA sz X) (ty_A sz)) 0 0 (ty_A sz) := by
  refine Met.ofW (cc := cX2_init) (maxL := 5) (ret := (Option.none : Option Jvm.ClassFile.FieldType)) (by decide) rfl ?_
  intro p e s m args below meth c s₁ B hml hv
  obtain ⟨rfl, hG, hE⟩ := hv
  have hx := B.exec
  have hb := B.bytes
  have hr := B.returns
  have hts := atoms_spec B.pre
  have hA : ∀ w ∈ AL, w.before _ s = true := fun w h => hts w (List.mem_cons_of_mem _ h)
  have hown : s.vm.findClass RX2 = some m.cls := findClass_of_methodNamed B.named
  have hlocks := B.notSynchronized
  have hin : meth.name = "<init>" := (name_of_methodNamed B.named B.method).1
  have hS : va_S (ty_A sz) s.heap s.heap [] := va_S.rf
  have hl := lv_entry ([.ref h0, .int p1, .ref p2, .ref p3, .int p4]) (n := 5) (Nat.le_of_ble_eq_true rfl)
  rw [lg_entry_eq]
  generalize (lg_sl ([.ref h0, .int p1, .ref p2, .ref p3, .int p4]) ++ List.replicate (5 - (lg_sl ([.ref h0, .int p1, .ref p2, .ref p3, .int p4])).length) Slot.unset).toArray = ls at hl ⊢
  have hl : lv_has ls 5 [(0, .ref h0), (1, .int p1), (2, .ref p2), (3, .ref p3), (4, .int p4)] := hl
  refine lv_aload_n hx hb dX2_init_0 rfl (lv_at hl 0 rfl) ?_
  refine W.objInit hx hb hown (hA _ wd_3_17) (hA _ wd_1_28) (hA _ wd_1_29) rfl (by rw [hml]; exact hl.1) rfl dX2_init_1 (Nat.le_of_ble_eq_true rfl) (Nat.le_of_ble_eq_true rfl) ?_
  refine W.eq (g2 := F0 m 4 ls []) rfl ?_
  refine lv_aload_n hx hb dX2_init_4 rfl (lv_at hl 0 rfl) ?_
  refine ty_iconst hx hb (0) dX2_init_5 (by decide) (fun x1 h2 => ?_)
  refine rw_X2 hx hb hA hE hG hS hown hin rfl 4 (by decide) wd_3_27 rfl (ty := .int) (tyX2_ok 4 (by decide)) rfl rfl (Nat.le_of_ble_eq_true rfl) dX2_init_6 (fun H locs hG hS => ?_)
  replace hG : ty_ok (dC, dI) vwCl Γ (TP dA Γ g) sz ((h0, .inr (2, [.int 0, .null, .null, .int 0, .int x1, .int 0, .int 0, .null, .null, .null])) :: X) H := hG
  refine lv_aload_n hx hb dX2_init_9 rfl (lv_at hl 0 rfl) ?_
  refine ty_iconst hx hb (0) dX2_init_10 (by decide) (fun x3 h4 => ?_)
  refine rw_X2 hx hb hA hE hG hS hown hin rfl 5 (by decide) wd_3_29 rfl (ty := .int) (tyX2_ok 5 (by decide)) rfl rfl (Nat.le_of_ble_eq_true rfl) dX2_init_11 (fun H locs hG hS => ?_)
  replace hG : ty_ok (dC, dI) vwCl Γ (TP dA Γ g) sz ((h0, .inr (2, [.int 0, .null, .null, .int 0, .int x1, .int x3, .int 0, .null, .null, .null])) :: X) H := hG
  refine lv_aload_n hx hb dX2_init_14 rfl (lv_at hl 0 rfl) ?_
  refine ty_iconst hx hb (0) dX2_init_15 (by decide) (fun x5 h6 => ?_)
  refine rw_X2 hx hb hA hE hG hS hown hin rfl 6 (by decide) wd_3_32 rfl (ty := .int) (tyX2_ok 6 (by decide)) rfl rfl (Nat.le_of_ble_eq_true rfl) dX2_init_16 (fun H locs hG hS => ?_)
  replace hG : ty_ok (dC, dI) vwCl Γ (TP dA Γ g) sz ((h0, .inr (2, [.int 0, .null, .null, .int 0, .int x1, .int x3, .int x5, .null, .null, .null])) :: X) H := hG
  refine lv_aload_n hx hb dX2_init_19 rfl (lv_at hl 0 rfl) ?_
  refine lv_null hx hb dX2_init_20 ?_
  refine rw_X2 hx hb hA hE hG hS hown hin rfl 7 (by decide) wd_3_35 rfl (ty := .object "WeekBank$Wish") (tyX2_ok 7 (by decide)) rfl rfl (Nat.le_of_ble_eq_true rfl) dX2_init_21 (fun H locs hG hS => ?_)
  replace hG : ty_ok (dC, dI) vwCl Γ (TP dA Γ g) sz ((h0, .inr (2, [.int 0, .null, .null, .int 0, .int x1, .int x3, .int x5, .null, .null, .null])) :: X) H := hG
  refine lv_aload_n hx hb dX2_init_24 rfl (lv_at hl 0 rfl) ?_
  refine lv_null hx hb dX2_init_25 ?_
  refine rw_X2 hx hb hA hE hG hS hown hin rfl 8 (by decide) wd_3_38 rfl (ty := .object "WeekBank$Gift") (tyX2_ok 8 (by decide)) rfl rfl (Nat.le_of_ble_eq_true rfl) dX2_init_26 (fun H locs hG hS => ?_)
  replace hG : ty_ok (dC, dI) vwCl Γ (TP dA Γ g) sz ((h0, .inr (2, [.int 0, .null, .null, .int 0, .int x1, .int x3, .int x5, .null, .null, .null])) :: X) H := hG
  refine lv_aload_n hx hb dX2_init_29 rfl (lv_at hl 0 rfl) ?_
  refine lv_null hx hb dX2_init_30 ?_
  refine rw_X2 hx hb hA hE hG hS hown hin rfl 9 (by decide) wd_3_41 rfl (ty := .object "WeekBank$Owner") (tyX2_ok 9 (by decide)) rfl rfl (Nat.le_of_ble_eq_true rfl) dX2_init_31 (fun H locs hG hS => ?_)
  replace hG : ty_ok (dC, dI) vwCl Γ (TP dA Γ g) sz ((h0, .inr (2, [.int 0, .null, .null, .int 0, .int x1, .int x3, .int x5, .null, .null, .null])) :: X) H := hG
  refine lv_aload_n hx hb dX2_init_34 rfl (lv_at hl 0 rfl) ?_
  refine lv_iload_n hx hb dX2_init_35 rfl (lv_at hl 1 rfl) ?_
  refine rw_X2 hx hb hA hE hG hS hown hin rfl 0 (by decide) wd_3_18 rfl (ty := .int) (tyX2_ok 0 (by decide)) rfl rfl (Nat.le_of_ble_eq_true rfl) dX2_init_36 (fun H locs hG hS => ?_)
  replace hG : ty_ok (dC, dI) vwCl Γ (TP dA Γ g) sz ((h0, .inr (2, [.int p1, .null, .null, .int 0, .int x1, .int x3, .int x5, .null, .null, .null])) :: X) H := hG
  refine lv_aload_n hx hb dX2_init_39 rfl (lv_at hl 0 rfl) ?_
  refine lv_aload_n hx hb dX2_init_40 rfl (lv_at hl 2 rfl) ?_
  refine rw_X2 hx hb hA hE hG hS hown hin rfl 1 (by decide) wd_3_20 rfl (ty := .object "WeekBank$Owner") (tyX2_ok 1 (by decide)) rfl rfl (Nat.le_of_ble_eq_true rfl) dX2_init_41 (fun H locs hG hS => ?_)
  replace hG : ty_ok (dC, dI) vwCl Γ (TP dA Γ g) sz ((h0, .inr (2, [.int p1, .ref p2, .null, .int 0, .int x1, .int x3, .int x5, .null, .null, .null])) :: X) H := hG
  refine lv_aload_n hx hb dX2_init_44 rfl (lv_at hl 0 rfl) ?_
  refine lv_aload_n hx hb dX2_init_45 rfl (lv_at hl 3 rfl) ?_
  refine rw_X2 hx hb hA hE hG hS hown hin rfl 2 (by decide) wd_3_23 rfl (ty := .object "WeekBank$Flat") (tyX2_ok 2 (by decide)) rfl rfl (Nat.le_of_ble_eq_true rfl) dX2_init_46 (fun H locs hG hS => ?_)
  replace hG : ty_ok (dC, dI) vwCl Γ (TP dA Γ g) sz ((h0, .inr (2, [.int p1, .ref p2, .ref p3, .int 0, .int x1, .int x3, .int x5, .null, .null, .null])) :: X) H := hG
  refine lv_aload_n hx hb dX2_init_49 rfl (lv_at hl 0 rfl) ?_
  refine lv_iload hx hb dX2_init_50 (lv_at hl 4 rfl) ?_
  refine rw_X2 hx hb hA hE hG hS hown hin rfl 3 (by decide) wd_3_25 rfl (ty := .int) (tyX2_ok 3 (by decide)) rfl rfl (Nat.le_of_ble_eq_true rfl) dX2_init_52 (fun H locs hG hS => ?_)
  replace hG : ty_ok (dC, dI) vwCl Γ (TP dA Γ g) sz ((h0, .inr (2, [.int p1, .ref p2, .ref p3, .int p4, .int x1, .int x3, .int x5, .null, .null, .null])) :: X) H := hG
  have z_own : ty Γ h0 0 := (hG.2.2.2 _ List.mem_cons_self).2.1
  have hx7 : ext Γ (va_up Γ h0 (4, 0)) := ext.up z_own
  have hG := tp_adopt (t := (4, 0)) hG (by rw [TP_4 rfl]; exact ⟨_, rfl, rfl, fun k hk => match k, hk with
        | 0, _ => ⟨_, rfl⟩
        | 1, _ => ⟨_, rfl, hx7.one t_p2 (by decide)⟩
        | 2, _ => ⟨_, rfl, hx7.one t_p3 (by decide)⟩
        | 3, _ => ⟨_, rfl⟩
        | 4, _ => ⟨_, rfl⟩
        | 5, _ => ⟨_, rfl⟩
        | 6, _ => ⟨_, rfl⟩
        | 7, _ => ⟨none, rfl, fun _ h => by cases h⟩
        | 8, _ => ⟨none, rfl, fun _ h => by cases h⟩
        | 9, _ => ⟨none, rfl, fun _ h => by cases h⟩
      ⟩)
  obtain ⟨Γ8, eΓ8⟩ : ∃ z, z = va_up Γ h0 (4, 0) := ⟨_, rfl⟩
  rw [← eΓ8] at hG
  have hx9 : ext Γ Γ8 := by rw [eΓ8]; exact ext.up z_own
  have hU : Un Γ8 := by rw [eΓ8]; exact Un.up0 hU rfl rfl
  have hX10 : ext Γ Γ8 := ext.trans ext.rf hx9
  replace t_p2 : ty Γ8 p2 3 := hx9.one t_p2 (by decide)
  replace t_p3 : ty Γ8 p3 2 := hx9.one t_p3 (by decide)
  have t_h0 : ty Γ8 h0 4 := by rw [eΓ8]; unfold ty; rw [va_up_self]
  clear z_own
  exact W.vret hx hb hr (fun t ht hW => ⟨⟨(Γ8, g), rfl, ⟨hX10, hU, t_h0, rfl⟩, ok2 ht hG⟩, hS.F ht⟩) hS.2.2 dX2_init_55

set_option maxHeartbeats 4000000 in
set_option maxRecDepth 100000 in
/-- WeekBank$Rules.earlyOf:  -/
theorem k_X6_earlyOf (l : Launch) (dC : Nat → ClassId) (dI : Nat → Nat → Nat) (dA : Nat → ClassId) (sz : Nat) (X : va_W) (Γ : ty_G) (hU : Un Γ) (g : gh) (h0 ii : Nat) (t_h0 : Γ h0 = (6, ii)) (p1 : Int32) : Met l yX6_earlyOf (.code yX6_earlyOf cX6_earlyOf 3 (Option.some Jvm.ClassFile.FieldType.int) :: AL) ({ frames := 1, cells := 0, slots := 0, locals := 13 }) (PCx dC dI dA sz X Γ g [.ref h0, .int p1]) (va_Qi (fun (r : Int32) (u : gh) => u = g) (okb dC dI dA sz X Γ) (ty_A sz)) 0 0 (ty_A sz) := by
  refine Met.ofW (cc := cX6_earlyOf) (maxL := 3) (ret := (Option.some Jvm.ClassFile.FieldType.int)) (by decide) rfl ?_
  intro p e s m args below meth c s₁ B hml hv
  obtain ⟨rfl, hG, hE⟩ := hv
  have hx := B.exec
  have hb := B.bytes
  have hr := B.returns
  have hts := atoms_spec B.pre
  have hA : ∀ w ∈ AL, w.before _ s = true := fun w h => hts w (List.mem_cons_of_mem _ h)
  have hown : s.vm.findClass RX6 = some m.cls := findClass_of_methodNamed B.named
  have hlocks := B.notSynchronized
  have hS : va_S (ty_A sz) s.heap s.heap [] := va_S.rf
  have r1 := rgD p1
  have hl := lv_entry ([.ref h0, .int p1]) (n := 3) (Nat.le_of_ble_eq_true rfl)
  rw [lg_entry_eq]
  generalize (lg_sl ([.ref h0, .int p1]) ++ List.replicate (3 - (lg_sl ([.ref h0, .int p1])).length) Slot.unset).toArray = ls at hl ⊢
  have hl : lv_has ls 3 [(0, .ref h0), (1, .int p1)] := hl
  refine lv_iload_n hx hb dX6_earlyOf_0 rfl (lv_at hl 1 rfl) ?_
  refine ty_bipush hx hb (52) dX6_earlyOf_1 (by decide) (fun x1 h2 => ?_)
  refine va_mmin hx hb (hml.trans hl.1.symm) hown (hA _ wd_2_238) (hA _ wd_2_239) (hA _ wd_1_14) (hA _ wd_3_0) (Nat.le_of_ble_eq_true rfl) (Nat.le_of_ble_eq_true rfl) (Nat.zero_le _) (Nat.zero_le _) dX6_earlyOf_3 ?_
  refine lv_topi (fun x3 h4 => ?_)
  have h4 : x3.toInt = if x1.toInt < p1.toInt then x1.toInt else p1.toInt := by rw [h4]; simp only [ty_lt32]; split <;> rfl
  refine lv_istore_n (lv' := [(2, .int x3), (0, .ref h0), (1, .int p1)]) hx hb dX6_earlyOf_6 rfl hl (by decide) rfl (fun ls hl => ?_)
  have L_7 : ∀ (n : Nat) (v2_7 : Int32) (H : Heap) (locs : List Loc) (ls : Array Slot), (v2_7.toInt + 2147483649 : Int) < n → -2147483648 ≤ v2_7.toInt ∧ v2_7.toInt ≤ 52 → ty_ok (dC, dI) vwCl Γ (TP dA Γ g) sz X H → va_S (ty_A sz) s.heap H locs → lv_has ls 3 [(2, .int v2_7), (0, .ref h0), (1, .int p1)] → W p l e (headSpec (.code yX6_earlyOf cX6_earlyOf 3 (Option.some Jvm.ClassFile.FieldType.int) :: AL) ({ frames := 1, cells := 0, slots := 0, locals := 13 })).room s m ([.ref h0, .int p1] : List Value).toArray below meth c H locs 0 0 (MQ below (va_Qi (fun (r : Int32) (u : gh) => u = g) (okb dC dI dA sz X Γ) (ty_A sz)) ([.ref h0, .int p1] : List Value).toArray s 0 0 (ty_A sz)) (F0 m 7 ls []) := by
    intro n
    induction n with
    | zero => intro v2_7 H locs ls hm hi0 hG hS hl; exfalso; omega
    | succ n ih_7 =>
      intro v2_7 H locs ls hm hi0 hG hS hl
      refine lv_iload_n hx hb dX6_earlyOf_7 rfl (lv_at hl 0 rfl) ?_
      refine ty_if_lt (tgt := 34) hx hb dX6_earlyOf_8 (by decide) (fun c6 => ?_) (fun c6 => ?_)
      · skip
        refine ty_iconst hx hb (0) dX6_earlyOf_34 (by decide) (fun x7 h8 => ?_)
        exact W.iret (v := x7) hx hb hr (fun t ht hW => ⟨⟨x7, g, rfl, rfl, ok1 ht hG⟩, hS.F ht⟩) hS.2.2 dX6_earlyOf_35
      · skip
        refine lv_aload_n hx hb dX6_earlyOf_11 rfl (lv_at hl 1 rfl) ?_
        refine get_X6_2 hx hb hA hown hE hG t_h0 wd_1_82 dX6_earlyOf_12 (fun b9 t_b9 => ?_)
        refine lv_iload_n hx hb dX6_earlyOf_15 rfl (lv_at hl 0 rfl) ?_
        refine ald_26 hx hb hE hG t_b9 (by omega) dX6_earlyOf_16 (fun j11 x10 h12 => ?_)
        refine ty_iconst hx hb (-1) dX6_earlyOf_17 (by decide) (fun x14 h15 => ?_)
        refine ty_icmp_eq (tgt := 28) hx hb dX6_earlyOf_18 (by decide) (fun c16 => ?_) (fun c16 => ?_)
        · skip
          obtain ⟨x17, h18⟩ : ∃ y : Int32, y = v2_7 + Int32.ofInt (-1) := ⟨_, rfl⟩
          try have h19 : x17.toInt = v2_7.toInt + (-1) := ty_inc h18 (by decide) (by omega) (by omega)
          refine lv_iinc (v := x17) (lv' := [(2, .int x17), (0, .ref h0), (1, .int p1)]) hx hb dX6_earlyOf_28 hl (k := 0) rfl h18.symm (by decide) rfl (fun ls hl => ?_)
          refine lv_goto (tgt := 7) hx hb dX6_earlyOf_31 (by decide) ?_
          exact ih_7 x17 _ _ ls (by omega) (by omega) hG hS (lv_sub hl [0, 1, 2] rfl)
        · skip
          refine lv_aload_n hx hb dX6_earlyOf_21 rfl (lv_at hl 1 rfl) ?_
          refine get_X6_2 hx hb hA hown hE hG t_h0 wd_1_82 dX6_earlyOf_22 (fun b20 t_b20 => ?_)
          refine lv_iload_n hx hb dX6_earlyOf_25 rfl (lv_at hl 0 rfl) ?_
          refine ald_26 hx hb hE hG t_b20 (by omega) dX6_earlyOf_26 (fun j22 x21 h23 => ?_)
          exact W.iret (v := x21) hx hb hr (fun t ht hW => ⟨⟨x21, g, rfl, rfl, ok1 ht hG⟩, hS.F ht⟩) hS.2.2 dX6_earlyOf_27
  exact L_7 ((x3.toInt + 2147483649) + 1).toNat x3 _ _ ls (by omega) (by omega) hG hS (lv_sub hl [0, 1, 2] rfl)

set_option maxHeartbeats 4000000 in
set_option maxRecDepth 100000 in
/-- WeekBank$Rules.worthOf:  -/
theorem k_X6_worthOf (l : Launch) (dC : Nat → ClassId) (dI : Nat → Nat → Nat) (dA : Nat → ClassId) (sz : Nat) (X : va_W) (Γ : ty_G) (hU : Un Γ) (g : gh) (h0 ii : Nat) (t_h0 : Γ h0 = (6, ii)) (p1 : Int32) (p2 : Int32) (p3 : Int32) : Met l yX6_worthOf (.code yX6_worthOf cX6_worthOf 4 (Option.some Jvm.ClassFile.FieldType.int) :: AL) ({ frames := 2, cells := 0, slots := 0, locals := 35 }) (PCx dC dI dA sz X Γ g [.ref h0, .int p1, .int p2, .int p3]) (va_Qi (fun (r : Int32) (u : gh) => u = g) (okb dC dI dA sz X Γ) (ty_A sz)) 0 0 (ty_A sz) := by
  refine Met.ofW (cc := cX6_worthOf) (maxL := 4) (ret := (Option.some Jvm.ClassFile.FieldType.int)) (by decide) rfl ?_
  intro p e s m args below meth c s₁ B hml hv
  obtain ⟨rfl, hG, hE⟩ := hv
  have hx := B.exec
  have hb := B.bytes
  have hr := B.returns
  have hts := atoms_spec B.pre
  have hA : ∀ w ∈ AL, w.before _ s = true := fun w h => hts w (List.mem_cons_of_mem _ h)
  have hown : s.vm.findClass RX6 = some m.cls := findClass_of_methodNamed B.named
  have hlocks := B.notSynchronized
  have hS : va_S (ty_A sz) s.heap s.heap [] := va_S.rf
  have hl := lv_entry ([.ref h0, .int p1, .int p2, .int p3]) (n := 4) (Nat.le_of_ble_eq_true rfl)
  rw [lg_entry_eq]
  generalize (lg_sl ([.ref h0, .int p1, .int p2, .int p3]) ++ List.replicate (4 - (lg_sl ([.ref h0, .int p1, .int p2, .int p3])).length) Slot.unset).toArray = ls at hl ⊢
  have hl : lv_has ls 4 [(0, .ref h0), (1, .int p1), (2, .int p2), (3, .int p3)] := hl
  refine lv_iload_n hx hb dX6_worthOf_0 rfl (lv_at hl 1 rfl) ?_
  refine cI (va_runSN (As := [.int p1]) (rest := []) ⟨hx, hb, hml, hown, hA⟩ (k_X8_isSize l dC dI dA sz X Γ hU g p1   ) ⟨va_cnB 1 hA (al_A wd_1_203) rfl rfl rfl hE.2.1.2.2.2.2.1 (hA _ wd_1_1) (by decide +kernel) ⟨Nat.le_of_ble_eq_true rfl, Nat.le_of_ble_eq_true rfl⟩, hA _ wd_1_202, trivial⟩ ⟨bl, fun U hU9 hW9 => ⟨rfl, by rw [hU9]; exact hG, hE.go hS hU9 hW9⟩⟩ rfl rfl hl.1 rfl (lv_room (Nat.le_of_ble_eq_true rfl)) dX6_worthOf_1 ⟨Nat.zero_le _, Nat.zero_le _⟩) hS (fun x3 u1 H locs w2 hG hS => ?_)
  obtain ⟨eu4, w2⟩ := w2
  rw [eu4] at hG
  refine ty_if_eq (tgt := 14) hx hb dX6_worthOf_4 (by decide) (fun c5 => ?_) (fun c5 => ?_)
  · skip
    refine ty_iconst hx hb (0) dX6_worthOf_14 (by decide) (fun x6 h7 => ?_)
    exact W.iret (v := x6) hx hb hr (fun t ht hW => ⟨⟨x6, g, rfl, rfl, ok1 ht hG⟩, hS.F ht⟩) hS.2.2 dX6_worthOf_15
  · skip
    refine lv_iload_n hx hb dX6_worthOf_7 rfl (lv_at hl 2 rfl) ?_
    refine cI (va_runSN (As := [.int p2]) (rest := []) ⟨hx, hb, hml, hown, hA⟩ (k_X8_isWeek l dC dI dA sz X Γ hU g p2   ) ⟨va_cnB 1 hA (al_A wd_2_59) rfl rfl rfl hE.2.1.2.2.2.2.2.1 (hA _ wd_1_1) (by decide +kernel) ⟨Nat.le_of_ble_eq_true rfl, Nat.le_of_ble_eq_true rfl⟩, hA _ wd_2_58, trivial⟩ ⟨bl, fun U hU9 hW9 => ⟨rfl, by rw [hU9]; exact hG, hE.go hS hU9 hW9⟩⟩ rfl rfl hl.1 rfl (lv_room (Nat.le_of_ble_eq_true rfl)) dX6_worthOf_8 ⟨Nat.zero_le _, Nat.zero_le _⟩) hS (fun x10 u8 H locs w9 hG hS => ?_)
    obtain ⟨eu11, w9⟩ := w9
    rw [eu11] at hG
    refine ty_if_ne (tgt := 16) hx hb dX6_worthOf_11 (by decide) (fun c12 => ?_) (fun c12 => ?_)
    · skip
      refine lv_aload_n hx hb dX6_worthOf_16 rfl (lv_at hl 0 rfl) ?_
      refine get_X6_0 hx hb hA hown hE hG t_h0 wd_1_80 dX6_worthOf_17 (fun b13 t_b13 => ?_)
      refine lv_iload_n hx hb dX6_worthOf_20 rfl (lv_at hl 2 rfl) ?_
      refine ald_16 hx hb hE hG t_b13 (by omega) dX6_worthOf_21 (fun j15 x14 h16 => ?_)
      refine lv_aload_n hx hb dX6_worthOf_22 rfl (lv_at hl 0 rfl) ?_
      refine get_X6_1 hx hb hA hown hE hG t_h0 wd_1_81 dX6_worthOf_23 (fun b18 t_b18 => ?_)
      refine lv_iload_n hx hb dX6_worthOf_26 rfl (lv_at hl 1 rfl) ?_
      refine ald_17 hx hb hE hG t_b18 (by omega) dX6_worthOf_27 (fun j20 x19 h21 => ?_)
      refine ty_iadd hx hb dX6_worthOf_28 (fun x23 h24 => ?_)
      try have h25 : x23.toInt = x14.toInt + x19.toInt := ty_add h24 (by omega) (by omega)
      refine lv_aload_n hx hb dX6_worthOf_29 rfl (lv_at hl 0 rfl) ?_
      refine lv_iload_n hx hb dX6_worthOf_30 rfl (lv_at hl 3 rfl) ?_
      refine cI (va_runV (C := RX6) (As := [.int p3]) (rest := [.int x23]) ⟨hx, hb, hml, hown, hA⟩ (k_X6_earlyOf l dC dI dA sz X Γ hU g h0 ii t_h0 p3   ) ⟨callB_of 1 hA (al_A wd_2_237) rfl rfl rfl (hA _ wd_1_3) (hA _ wd_2_234) (by decide +kernel) ⟨Nat.le_of_ble_eq_true rfl, Nat.le_of_ble_eq_true rfl⟩, hA _ wd_2_236, hA _ ws_14⟩ ⟨bl, recv_X6 hE hG (by rw [t_h0]), fun U hU9 hW9 => ⟨rfl, by rw [hU9]; exact hG, hE.go hS hU9 hW9⟩⟩ rfl rfl hl.1 rfl (lv_room (Nat.le_of_ble_eq_true rfl)) dX6_worthOf_31 ⟨Nat.zero_le _, Nat.zero_le _⟩) hS (fun x28 u26 H locs w27 hG hS => ?_)
      have eu29 := w27
      rw [eu29] at hG
      refine ty_iadd hx hb dX6_worthOf_34 (fun x30 h31 => ?_)
      try have h32 : x30.toInt = x23.toInt + x28.toInt := ty_add h31 (by omega) (by omega)
      exact W.iret (v := x30) hx hb hr (fun t ht hW => ⟨⟨x30, g, rfl, rfl, ok1 ht hG⟩, hS.F ht⟩) hS.2.2 dX6_worthOf_35
    · skip
      refine ty_iconst hx hb (0) dX6_worthOf_14 (by decide) (fun x33 h34 => ?_)
      exact W.iret (v := x33) hx hb hr (fun t ht hW => ⟨⟨x33, g, rfl, rfl, ok1 ht hG⟩, hS.F ht⟩) hS.2.2 dX6_worthOf_15

set_option maxHeartbeats 4000000 in
set_option maxRecDepth 100000 in
/-- WeekBank$Rules.setSeason:  -/
theorem k_X6_setSeason (l : Launch) (dC : Nat → ClassId) (dI : Nat → Nat → Nat) (dA : Nat → ClassId) (sz : Nat) (X : va_W) (Γ : ty_G) (hU : Un Γ) (g : gh) (h0 ii : Nat) (t_h0 : Γ h0 = (6, ii)) (p1 : Int32) (p2 : Int32) (p3 : Int32) : Met l yX6_setSeason (.code yX6_setSeason cX6_setSeason 5 (Option.none : Option Jvm.ClassFile.FieldType) :: AL) ({ frames := 1, cells := 0, slots := 0, locals := 13 }) (PCx dC dI dA sz X Γ g [.ref h0, .int p1, .int p2, .int p3]) (va_Qv (fun (u : gh) => u = g) (okb dC dI dA sz X Γ) (ty_A sz)) 0 0 (ty_A sz) := by
  refine Met.ofW (cc := cX6_setSeason) (maxL := 5) (ret := (Option.none : Option Jvm.ClassFile.FieldType)) (by decide) rfl ?_
  intro p e s m args below meth c s₁ B hml hv
  obtain ⟨rfl, hG, hE⟩ := hv
  have hx := B.exec
  have hb := B.bytes
  have hr := B.returns
  have hts := atoms_spec B.pre
  have hA : ∀ w ∈ AL, w.before _ s = true := fun w h => hts w (List.mem_cons_of_mem _ h)
  have hown : s.vm.findClass RX6 = some m.cls := findClass_of_methodNamed B.named
  have hlocks := B.notSynchronized
  have hS : va_S (ty_A sz) s.heap s.heap [] := va_S.rf
  have r1 := rgD p1
  have hl := lv_entry ([.ref h0, .int p1, .int p2, .int p3]) (n := 5) (Nat.le_of_ble_eq_true rfl)
  rw [lg_entry_eq]
  generalize (lg_sl ([.ref h0, .int p1, .int p2, .int p3]) ++ List.replicate (5 - (lg_sl ([.ref h0, .int p1, .int p2, .int p3])).length) Slot.unset).toArray = ls at hl ⊢
  have hl : lv_has ls 5 [(0, .ref h0), (1, .int p1), (2, .int p2), (3, .int p3)] := hl
  refine lv_iload_n hx hb dX6_setSeason_0 rfl (lv_at hl 1 rfl) ?_
  refine ty_iconst hx hb (0) dX6_setSeason_1 (by decide) (fun x1 h2 => ?_)
  refine va_mmax hx hb (hml.trans hl.1.symm) hown (hA _ wd_2_198) (hA _ wd_2_199) (hA _ wd_1_14) (hA _ wd_2_200) (Nat.le_of_ble_eq_true rfl) (Nat.le_of_ble_eq_true rfl) (Nat.zero_le _) (Nat.zero_le _) dX6_setSeason_2 ?_
  refine lv_topi (fun x3 h4 => ?_)
  have h4 : x3.toInt = if p1.toInt < x1.toInt then x1.toInt else p1.toInt := by rw [h4]; simp only [ty_lt32]; split <;> rfl
  refine lv_istore (lv' := [(4, .int x3), (0, .ref h0), (1, .int p1), (2, .int p2), (3, .int p3)]) hx hb dX6_setSeason_5 hl (by decide) rfl (fun ls hl => ?_)
  have L_7 : ∀ (n : Nat) (v4_7 : Int32) (H : Heap) (locs : List Loc) (ls : Array Slot), (2147483648 - v4_7.toInt : Int) < n → 0 ≤ v4_7.toInt ∧ v4_7.toInt ≤ 2147483647 → ty_ok (dC, dI) vwCl Γ (TP dA Γ g) sz X H → va_S (ty_A sz) s.heap H locs → lv_has ls 5 [(4, .int v4_7), (0, .ref h0), (1, .int p1), (2, .int p2), (3, .int p3)] → W p l e (headSpec (.code yX6_setSeason cX6_setSeason 5 (Option.none : Option Jvm.ClassFile.FieldType) :: AL) ({ frames := 1, cells := 0, slots := 0, locals := 13 })).room s m ([.ref h0, .int p1, .int p2, .int p3] : List Value).toArray below meth c H locs 0 0 (MQ below (va_Qv (fun (u : gh) => u = g) (okb dC dI dA sz X Γ) (ty_A sz)) ([.ref h0, .int p1, .int p2, .int p3] : List Value).toArray s 0 0 (ty_A sz)) (F0 m 7 ls []) := by
    intro n
    induction n with
    | zero => intro v4_7 H locs ls hm hi0 hG hS hl; exfalso; omega
    | succ n ih_7 =>
      intro v4_7 H locs ls hm hi0 hG hS hl
      refine lv_iload hx hb dX6_setSeason_7 (lv_at hl 0 rfl) ?_
      refine lv_iload_n hx hb dX6_setSeason_9 rfl (lv_at hl 3 rfl) ?_
      refine ty_icmp_gt (tgt := 34) hx hb dX6_setSeason_10 (by decide) (fun c6 => ?_) (fun c6 => ?_)
      · skip
        exact W.vret hx hb hr (fun t ht hW => ⟨⟨g, rfl, rfl, ok1 ht hG⟩, hS.F ht⟩) hS.2.2 dX6_setSeason_34
      · skip
        refine lv_iload hx hb dX6_setSeason_13 (lv_at hl 0 rfl) ?_
        refine ty_bipush hx hb (53) dX6_setSeason_15 (by decide) (fun x7 h8 => ?_)
        refine ty_icmp_ge (tgt := 34) hx hb dX6_setSeason_17 (by decide) (fun c9 => ?_) (fun c9 => ?_)
        · skip
          exact W.vret hx hb hr (fun t ht hW => ⟨⟨g, rfl, rfl, ok1 ht hG⟩, hS.F ht⟩) hS.2.2 dX6_setSeason_34
        · skip
          refine lv_aload_n hx hb dX6_setSeason_20 rfl (lv_at hl 1 rfl) ?_
          refine get_X6_0 hx hb hA hown hE hG t_h0 wd_1_80 dX6_setSeason_21 (fun b10 t_b10 => ?_)
          refine lv_iload hx hb dX6_setSeason_24 (lv_at hl 0 rfl) ?_
          refine lv_iload_n hx hb dX6_setSeason_26 rfl (lv_at hl 4 rfl) ?_
          refine ast_16 hx hb hE hG hS t_b10 (by omega) dX6_setSeason_27 (fun H locs hG hS => ?_)
          obtain ⟨x11, h12⟩ : ∃ y : Int32, y = v4_7 + Int32.ofInt (1) := ⟨_, rfl⟩
          try have h13 : x11.toInt = v4_7.toInt + (1) := ty_inc h12 (by decide) (by omega) (by omega)
          refine lv_iinc (v := x11) (lv' := [(4, .int x11), (0, .ref h0), (1, .int p1), (2, .int p2), (3, .int p3)]) hx hb dX6_setSeason_28 hl (k := 0) rfl h12.symm (by decide) rfl (fun ls hl => ?_)
          refine lv_goto (tgt := 7) hx hb dX6_setSeason_31 (by decide) ?_
          exact ih_7 x11 _ _ ls (by omega) (by omega) hG hS (lv_sub hl [0, 1, 2, 3, 4] rfl)
  exact L_7 ((2147483648 - x3.toInt) + 1).toNat x3 _ _ ls (by omega) (by omega) hG hS (lv_sub hl [0, 1, 2, 3, 4] rfl)

set_option maxHeartbeats 4000000 in
set_option maxRecDepth 100000 in
/-- WeekBank$Rules.setSize:  -/
theorem k_X6_setSize (l : Launch) (dC : Nat → ClassId) (dI : Nat → Nat → Nat) (dA : Nat → ClassId) (sz : Nat) (X : va_W) (Γ : ty_G) (hU : Un Γ) (g : gh) (h0 ii : Nat) (t_h0 : Γ h0 = (6, ii)) (p1 : Int32) (p2 : Int32) : Met l yX6_setSize (.code yX6_setSize cX6_setSize 3 (Option.none : Option Jvm.ClassFile.FieldType) :: AL) ({ frames := 1, cells := 0, slots := 0, locals := 20 }) (PCx dC dI dA sz X Γ g [.ref h0, .int p1, .int p2]) (va_Qv (fun (u : gh) => u = g) (okb dC dI dA sz X Γ) (ty_A sz)) 0 0 (ty_A sz) := by
  refine Met.ofW (cc := cX6_setSize) (maxL := 3) (ret := (Option.none : Option Jvm.ClassFile.FieldType)) (by decide) rfl ?_
  intro p e s m args below meth c s₁ B hml hv
  obtain ⟨rfl, hG, hE⟩ := hv
  have hx := B.exec
  have hb := B.bytes
  have hr := B.returns
  have hts := atoms_spec B.pre
  have hA : ∀ w ∈ AL, w.before _ s = true := fun w h => hts w (List.mem_cons_of_mem _ h)
  have hown : s.vm.findClass RX6 = some m.cls := findClass_of_methodNamed B.named
  have hlocks := B.notSynchronized
  have hS : va_S (ty_A sz) s.heap s.heap [] := va_S.rf
  have hl := lv_entry ([.ref h0, .int p1, .int p2]) (n := 3) (Nat.le_of_ble_eq_true rfl)
  rw [lg_entry_eq]
  generalize (lg_sl ([.ref h0, .int p1, .int p2]) ++ List.replicate (3 - (lg_sl ([.ref h0, .int p1, .int p2])).length) Slot.unset).toArray = ls at hl ⊢
  have hl : lv_has ls 3 [(0, .ref h0), (1, .int p1), (2, .int p2)] := hl
  refine lv_iload_n hx hb dX6_setSize_0 rfl (lv_at hl 1 rfl) ?_
  refine cI (va_runSN (As := [.int p1]) (rest := []) ⟨hx, hb, hml, hown, hA⟩ (k_X8_isSize l dC dI dA sz X Γ hU g p1   ) ⟨va_cnB 1 hA (al_A wd_1_203) rfl rfl rfl hE.2.1.2.2.2.2.1 (hA _ wd_1_1) (by decide +kernel) ⟨Nat.le_of_ble_eq_true rfl, Nat.le_of_ble_eq_true rfl⟩, hA _ wd_1_202, trivial⟩ ⟨bl, fun U hU9 hW9 => ⟨rfl, by rw [hU9]; exact hG, hE.go hS hU9 hW9⟩⟩ rfl rfl hl.1 rfl (lv_room (Nat.le_of_ble_eq_true rfl)) dX6_setSize_1 ⟨Nat.zero_le _, Nat.zero_le _⟩) hS (fun x3 u1 H locs w2 hG hS => ?_)
  obtain ⟨eu4, w2⟩ := w2
  rw [eu4] at hG
  refine ty_if_eq (tgt := 14) hx hb dX6_setSize_4 (by decide) (fun c5 => ?_) (fun c5 => ?_)
  · skip
    exact W.vret hx hb hr (fun t ht hW => ⟨⟨g, rfl, rfl, ok1 ht hG⟩, hS.F ht⟩) hS.2.2 dX6_setSize_14
  · skip
    refine lv_aload_n hx hb dX6_setSize_7 rfl (lv_at hl 0 rfl) ?_
    refine get_X6_1 hx hb hA hown hE hG t_h0 wd_1_81 dX6_setSize_8 (fun b6 t_b6 => ?_)
    refine lv_iload_n hx hb dX6_setSize_11 rfl (lv_at hl 1 rfl) ?_
    refine lv_iload_n hx hb dX6_setSize_12 rfl (lv_at hl 2 rfl) ?_
    refine ast_17 hx hb hE hG hS t_b6 (by omega) dX6_setSize_13 (fun H locs hG hS => ?_)
    exact W.vret hx hb hr (fun t ht hW => ⟨⟨g, rfl, rfl, ok1 ht hG⟩, hS.F ht⟩) hS.2.2 dX6_setSize_14

set_option maxHeartbeats 4000000 in
set_option maxRecDepth 100000 in
/-- WeekBank$Rules.setEarly:  -/
theorem k_X6_setEarly (l : Launch) (dC : Nat → ClassId) (dI : Nat → Nat → Nat) (dA : Nat → ClassId) (sz : Nat) (X : va_W) (Γ : ty_G) (hU : Un Γ) (g : gh) (h0 ii : Nat) (t_h0 : Γ h0 = (6, ii)) (p1 : Int32) (p2 : Int32) : Met l yX6_setEarly (.code yX6_setEarly cX6_setEarly 3 (Option.none : Option Jvm.ClassFile.FieldType) :: AL) ({ frames := 1, cells := 0, slots := 0, locals := 20 }) (PCx dC dI dA sz X Γ g [.ref h0, .int p1, .int p2]) (va_Qv (fun (u : gh) => u = g) (okb dC dI dA sz X Γ) (ty_A sz)) 0 0 (ty_A sz) := by
  refine Met.ofW (cc := cX6_setEarly) (maxL := 3) (ret := (Option.none : Option Jvm.ClassFile.FieldType)) (by decide) rfl ?_
  intro p e s m args below meth c s₁ B hml hv
  obtain ⟨rfl, hG, hE⟩ := hv
  have hx := B.exec
  have hb := B.bytes
  have hr := B.returns
  have hts := atoms_spec B.pre
  have hA : ∀ w ∈ AL, w.before _ s = true := fun w h => hts w (List.mem_cons_of_mem _ h)
  have hown : s.vm.findClass RX6 = some m.cls := findClass_of_methodNamed B.named
  have hlocks := B.notSynchronized
  have hS : va_S (ty_A sz) s.heap s.heap [] := va_S.rf
  have hl := lv_entry ([.ref h0, .int p1, .int p2]) (n := 3) (Nat.le_of_ble_eq_true rfl)
  rw [lg_entry_eq]
  generalize (lg_sl ([.ref h0, .int p1, .int p2]) ++ List.replicate (3 - (lg_sl ([.ref h0, .int p1, .int p2])).length) Slot.unset).toArray = ls at hl ⊢
  have hl : lv_has ls 3 [(0, .ref h0), (1, .int p1), (2, .int p2)] := hl
  refine lv_iload_n hx hb dX6_setEarly_0 rfl (lv_at hl 1 rfl) ?_
  refine cI (va_runSN (As := [.int p1]) (rest := []) ⟨hx, hb, hml, hown, hA⟩ (k_X8_isWeek l dC dI dA sz X Γ hU g p1   ) ⟨va_cnB 1 hA (al_A wd_2_59) rfl rfl rfl hE.2.1.2.2.2.2.2.1 (hA _ wd_1_1) (by decide +kernel) ⟨Nat.le_of_ble_eq_true rfl, Nat.le_of_ble_eq_true rfl⟩, hA _ wd_2_58, trivial⟩ ⟨bl, fun U hU9 hW9 => ⟨rfl, by rw [hU9]; exact hG, hE.go hS hU9 hW9⟩⟩ rfl rfl hl.1 rfl (lv_room (Nat.le_of_ble_eq_true rfl)) dX6_setEarly_1 ⟨Nat.zero_le _, Nat.zero_le _⟩) hS (fun x3 u1 H locs w2 hG hS => ?_)
  obtain ⟨eu4, w2⟩ := w2
  rw [eu4] at hG
  refine ty_if_eq (tgt := 14) hx hb dX6_setEarly_4 (by decide) (fun c5 => ?_) (fun c5 => ?_)
  · skip
    exact W.vret hx hb hr (fun t ht hW => ⟨⟨g, rfl, rfl, ok1 ht hG⟩, hS.F ht⟩) hS.2.2 dX6_setEarly_14
  · skip
    refine lv_aload_n hx hb dX6_setEarly_7 rfl (lv_at hl 0 rfl) ?_
    refine get_X6_2 hx hb hA hown hE hG t_h0 wd_1_82 dX6_setEarly_8 (fun b6 t_b6 => ?_)
    refine lv_iload_n hx hb dX6_setEarly_11 rfl (lv_at hl 1 rfl) ?_
    refine lv_iload_n hx hb dX6_setEarly_12 rfl (lv_at hl 2 rfl) ?_
    refine ast_26 hx hb hE hG hS t_b6 (by omega) dX6_setEarly_13 (fun H locs hG hS => ?_)
    exact W.vret hx hb hr (fun t ht hW => ⟨⟨g, rfl, rfl, ok1 ht hG⟩, hS.F ht⟩) hS.2.2 dX6_setEarly_14

set_option maxHeartbeats 4000000 in
set_option maxRecDepth 100000 in
/-- WeekBank.livingOwnerAt:  -/
theorem k_X8_livingOwnerAt (l : Launch) (dC : Nat → ClassId) (dI : Nat → Nat → Nat) (dA : Nat → ClassId) (sz : Nat) (X : va_W) (Γ : ty_G) (hU : Un Γ) (g : gh) (h0 : Nat) (t_h0 : ty Γ h0 1) (p1 : Int32) (g2 : g 2 0 = g 34 0 ∧ 0 ≤ g 2 0 ∧ g 2 0 ≤ 10) : Met l yX8_livingOwnerAt (.code yX8_livingOwnerAt cX8_livingOwnerAt 3 (Option.some (Jvm.ClassFile.FieldType.object "WeekBank$Owner")) :: AL) ({ frames := 1, cells := 0, slots := 0, locals := 21 }) (PCx dC dI dA sz X Γ g [.ref h0, .int p1]) (va_Qq (fun (r : Option Nat) (u : gh) => (∀ b, r = some b → (Γ b).1 = 3) ∧ u = g) (okb dC dI dA sz X Γ) (ty_A sz)) 0 0 (ty_A sz) := by
  refine Met.ofW (cc := cX8_livingOwnerAt) (maxL := 3) (ret := (Option.some (Jvm.ClassFile.FieldType.object "WeekBank$Owner"))) (by decide) rfl ?_
  intro p e s m args below meth c s₁ B hml hv
  obtain ⟨rfl, hG, hE⟩ := hv
  have hx := B.exec
  have hb := B.bytes
  have hr := B.returns
  have hts := atoms_spec B.pre
  have hA : ∀ w ∈ AL, w.before _ s = true := fun w h => hts w (List.mem_cons_of_mem _ h)
  have hown : s.vm.findClass RX8 = some m.cls := findClass_of_methodNamed B.named
  have hlocks := B.notSynchronized
  have hS : va_S (ty_A sz) s.heap s.heap [] := va_S.rf
  have hl := lv_entry ([.ref h0, .int p1]) (n := 3) (Nat.le_of_ble_eq_true rfl)
  rw [lg_entry_eq]
  generalize (lg_sl ([.ref h0, .int p1]) ++ List.replicate (3 - (lg_sl ([.ref h0, .int p1])).length) Slot.unset).toArray = ls at hl ⊢
  have hl : lv_has ls 3 [(0, .ref h0), (1, .int p1)] := hl
  refine lv_aload_n hx hb dX8_livingOwnerAt_0 rfl (lv_at hl 0 rfl) ?_
  refine lv_iload_n hx hb dX8_livingOwnerAt_1 rfl (lv_at hl 1 rfl) ?_
  refine cQ (va_runV (C := RX8) (As := [.int p1]) (rest := []) ⟨hx, hb, hml, hown, hA⟩ (k_X8_ownerAt l dC dI dA sz X Γ hU g h0 t_h0 p1   (by omega)) ⟨callB_of 1 hA (al_A wd_2_56) rfl rfl rfl (hA _ wd_1_1) (hA _ wd_2_53) (by decide +kernel) ⟨Nat.le_of_ble_eq_true rfl, Nat.le_of_ble_eq_true rfl⟩, hA _ wd_2_55, hA _ ws_2⟩ ⟨bl, recv_X8 hE hG t_h0, fun U hU9 hW9 => ⟨rfl, by rw [hU9]; exact hG, hE.go hS hU9 hW9⟩⟩ rfl rfl hl.1 rfl (lv_room (Nat.le_of_ble_eq_true rfl)) dX8_livingOwnerAt_2 ⟨Nat.zero_le _, Nat.zero_le _⟩) hS (fun r3 u1 H locs w2 hG hS => ?_)
  obtain ⟨t_r3, w2⟩ := w2
  obtain ⟨eu4, w2⟩ := w2
  rw [eu4] at hG
  refine ty_astore_nq (lv' := [(2, va_rf r3), (0, .ref h0), (1, .int p1)]) hx hb dX8_livingOwnerAt_5 rfl hl (by decide) rfl (fun ls hl => ?_)
  refine ty_aload_nq hx hb dX8_livingOwnerAt_6 rfl (lv_at hl 0 rfl) ?_
  refine ty_ifnull (tgt := 17) hx hb dX8_livingOwnerAt_7 (by decide) (fun h6 => ?_) (fun b5 h6 => ?_)
  · skip
    subst h6
    have hl : lv_has ls 3 [(2, .null), (0, .ref h0), (1, .int p1)] := hl
    refine lv_null hx hb dX8_livingOwnerAt_17 ?_
    refine lv_goto (tgt := 22) hx hb dX8_livingOwnerAt_18 (by decide) ?_
    exact W.aret (v := va_rf (none)) hx hb hr (Or.inl ⟨_, rfl⟩) (va_rf_or _) (fun t ht hW => ⟨⟨none, g, rfl, ⟨(fun _ h => by cases h), rfl⟩, ok1 ht hG⟩, hS.F ht⟩) hS.2.2 dX8_livingOwnerAt_22
  · skip
    subst h6
    have t_b5 : ty Γ b5 3 := t_r3 b5 rfl
    have hl : lv_has ls 3 [(2, .ref b5), (0, .ref h0), (1, .int p1)] := hl
    refine lv_aload_n hx hb dX8_livingOwnerAt_10 rfl (lv_at hl 0 rfl) ?_
    refine get_X3_5 hx hb hA hown hE hG t_b5 wd_2_19 dX8_livingOwnerAt_11 (fun x7 h8 => ?_)
    refine ty_if_eq (tgt := 21) hx hb dX8_livingOwnerAt_14 (by decide) (fun c9 => ?_) (fun c9 => ?_)
    · skip
      refine lv_aload_n hx hb dX8_livingOwnerAt_21 rfl (lv_at hl 0 rfl) ?_
      exact W.aret (v := va_rf (some b5)) hx hb hr (Or.inl ⟨_, rfl⟩) (va_rf_or _) (fun t ht hW => ⟨⟨some b5, g, rfl, ⟨(fun _ h => by cases h; exact t_b5), rfl⟩, ok1 ht hG⟩, hS.F ht⟩) hS.2.2 dX8_livingOwnerAt_22
    · skip
      refine lv_null hx hb dX8_livingOwnerAt_17 ?_
      refine lv_goto (tgt := 22) hx hb dX8_livingOwnerAt_18 (by decide) ?_
      exact W.aret (v := va_rf (none)) hx hb hr (Or.inl ⟨_, rfl⟩) (va_rf_or _) (fun t ht hW => ⟨⟨none, g, rfl, ⟨(fun _ h => by cases h), rfl⟩, ok1 ht hG⟩, hS.F ht⟩) hS.2.2 dX8_livingOwnerAt_22

set_option maxHeartbeats 4000000 in
set_option maxRecDepth 100000 in
/-- WeekBank.giftThatIs:  -/
theorem k_X8_giftThatIs (l : Launch) (dC : Nat → ClassId) (dI : Nat → Nat → Nat) (dA : Nat → ClassId) (sz : Nat) (X : va_W) (Γ : ty_G) (hU : Un Γ) (g : gh) (h0 : Nat) (t_h0 : ty Γ h0 1) (p1 : Int32) (p2 : Int32) (g3 : g 3 0 = g 35 0 ∧ 0 ≤ g 3 0 ∧ g 3 0 ≤ 200) : Met l yX8_giftThatIs (.code yX8_giftThatIs cX8_giftThatIs 4 (Option.some (Jvm.ClassFile.FieldType.object "WeekBank$Gift")) :: AL) ({ frames := 1, cells := 0, slots := 0, locals := 21 }) (PCx dC dI dA sz X Γ g [.ref h0, .int p1, .int p2]) (va_Qq (fun (r : Option Nat) (u : gh) => (∀ b, r = some b → (Γ b).1 = 4) ∧ u = g) (okb dC dI dA sz X Γ) (ty_A sz)) 0 0 (ty_A sz) := by
  refine Met.ofW (cc := cX8_giftThatIs) (maxL := 4) (ret := (Option.some (Jvm.ClassFile.FieldType.object "WeekBank$Gift"))) (by decide) rfl ?_
  intro p e s m args below meth c s₁ B hml hv
  obtain ⟨rfl, hG, hE⟩ := hv
  have hx := B.exec
  have hb := B.bytes
  have hr := B.returns
  have hts := atoms_spec B.pre
  have hA : ∀ w ∈ AL, w.before _ s = true := fun w h => hts w (List.mem_cons_of_mem _ h)
  have hown : s.vm.findClass RX8 = some m.cls := findClass_of_methodNamed B.named
  have hlocks := B.notSynchronized
  have hS : va_S (ty_A sz) s.heap s.heap [] := va_S.rf
  have hl := lv_entry ([.ref h0, .int p1, .int p2]) (n := 4) (Nat.le_of_ble_eq_true rfl)
  rw [lg_entry_eq]
  generalize (lg_sl ([.ref h0, .int p1, .int p2]) ++ List.replicate (4 - (lg_sl ([.ref h0, .int p1, .int p2])).length) Slot.unset).toArray = ls at hl ⊢
  have hl : lv_has ls 4 [(0, .ref h0), (1, .int p1), (2, .int p2)] := hl
  refine lv_aload_n hx hb dX8_giftThatIs_0 rfl (lv_at hl 0 rfl) ?_
  refine lv_iload_n hx hb dX8_giftThatIs_1 rfl (lv_at hl 1 rfl) ?_
  refine cQ (va_runV (C := RX8) (As := [.int p1]) (rest := []) ⟨hx, hb, hml, hown, hA⟩ (k_X8_giftAt l dC dI dA sz X Γ hU g h0 t_h0 p1   (by omega)) ⟨callB_of 1 hA (al_A wd_3_76) rfl rfl rfl (hA _ wd_1_1) (hA _ wd_3_73) (by decide +kernel) ⟨Nat.le_of_ble_eq_true rfl, Nat.le_of_ble_eq_true rfl⟩, hA _ wd_3_75, hA _ ws_18⟩ ⟨bl, recv_X8 hE hG t_h0, fun U hU9 hW9 => ⟨rfl, by rw [hU9]; exact hG, hE.go hS hU9 hW9⟩⟩ rfl rfl hl.1 rfl (lv_room (Nat.le_of_ble_eq_true rfl)) dX8_giftThatIs_2 ⟨Nat.zero_le _, Nat.zero_le _⟩) hS (fun r3 u1 H locs w2 hG hS => ?_)
  obtain ⟨t_r3, w2⟩ := w2
  obtain ⟨eu4, w2⟩ := w2
  rw [eu4] at hG
  refine ty_astore_nq (lv' := [(3, va_rf r3), (0, .ref h0), (1, .int p1), (2, .int p2)]) hx hb dX8_giftThatIs_5 rfl hl (by decide) rfl (fun ls hl => ?_)
  refine ty_aload_nq hx hb dX8_giftThatIs_6 rfl (lv_at hl 0 rfl) ?_
  refine ty_ifnull (tgt := 18) hx hb dX8_giftThatIs_7 (by decide) (fun h6 => ?_) (fun b5 h6 => ?_)
  · skip
    subst h6
    have hl : lv_has ls 4 [(3, .null), (0, .ref h0), (1, .int p1), (2, .int p2)] := hl
    refine lv_null hx hb dX8_giftThatIs_18 ?_
    refine lv_goto (tgt := 23) hx hb dX8_giftThatIs_19 (by decide) ?_
    exact W.aret (v := va_rf (none)) hx hb hr (Or.inl ⟨_, rfl⟩) (va_rf_or _) (fun t ht hW => ⟨⟨none, g, rfl, ⟨(fun _ h => by cases h), rfl⟩, ok1 ht hG⟩, hS.F ht⟩) hS.2.2 dX8_giftThatIs_23
  · skip
    subst h6
    have t_b5 : ty Γ b5 4 := t_r3 b5 rfl
    have hl : lv_has ls 4 [(3, .ref b5), (0, .ref h0), (1, .int p1), (2, .int p2)] := hl
    refine lv_aload_n hx hb dX8_giftThatIs_10 rfl (lv_at hl 0 rfl) ?_
    refine get_X2_6 hx hb hA hown hE hG t_b5 wd_3_34 dX8_giftThatIs_11 (fun x7 => ?_)
    refine lv_iload_n hx hb dX8_giftThatIs_14 rfl (lv_at hl 3 rfl) ?_
    refine ty_icmp_eq (tgt := 22) hx hb dX8_giftThatIs_15 (by decide) (fun c8 => ?_) (fun c8 => ?_)
    · skip
      refine lv_aload_n hx hb dX8_giftThatIs_22 rfl (lv_at hl 0 rfl) ?_
      exact W.aret (v := va_rf (some b5)) hx hb hr (Or.inl ⟨_, rfl⟩) (va_rf_or _) (fun t ht hW => ⟨⟨some b5, g, rfl, ⟨(fun _ h => by cases h; exact t_b5), rfl⟩, ok1 ht hG⟩, hS.F ht⟩) hS.2.2 dX8_giftThatIs_23
    · skip
      refine lv_null hx hb dX8_giftThatIs_18 ?_
      refine lv_goto (tgt := 23) hx hb dX8_giftThatIs_19 (by decide) ?_
      exact W.aret (v := va_rf (none)) hx hb hr (Or.inl ⟨_, rfl⟩) (va_rf_or _) (fun t ht hW => ⟨⟨none, g, rfl, ⟨(fun _ h => by cases h), rfl⟩, ok1 ht hG⟩, hS.F ht⟩) hS.2.2 dX8_giftThatIs_23

set_option maxHeartbeats 4000000 in
set_option maxRecDepth 100000 in
/-- WeekBank.canBeWished:  -/
theorem k_X8_canBeWished (l : Launch) (dC : Nat → ClassId) (dI : Nat → Nat → Nat) (dA : Nat → ClassId) (sz : Nat) (X : va_W) (Γ : ty_G) (hU : Un Γ) (g : gh) (p0 : Int32) (p1 : Int32) (p2 : Int32) (p3 : Int32) : Met l yX8_canBeWished (.code yX8_canBeWished cX8_canBeWished 5 (Option.some Jvm.ClassFile.FieldType.boolean) :: AL) ({ frames := 1, cells := 0, slots := 0, locals := 20 }) (PCx dC dI dA sz X Γ g [.int p0, .int p1, .int p2, .int p3]) (va_Qi (fun (r : Int32) (u : gh) => u = g ∧ ((r.toInt = 0 ∨ r.toInt = 1))) (okb dC dI dA sz X Γ) (ty_A sz)) 0 0 (ty_A sz) := by
  refine Met.ofW (cc := cX8_canBeWished) (maxL := 5) (ret := (Option.some Jvm.ClassFile.FieldType.boolean)) (by decide) rfl ?_
  intro p e s m args below meth c s₁ B hml hv
  obtain ⟨rfl, hG, hE⟩ := hv
  have hx := B.exec
  have hb := B.bytes
  have hr := B.returns
  have hts := atoms_spec B.pre
  have hA : ∀ w ∈ AL, w.before _ s = true := fun w h => hts w (List.mem_cons_of_mem _ h)
  have hown : s.vm.findClass RX8 = some m.cls := findClass_of_methodNamed B.named
  have hlocks := B.notSynchronized
  have hS : va_S (ty_A sz) s.heap s.heap [] := va_S.rf
  have hl := lv_entry ([.int p0, .int p1, .int p2, .int p3]) (n := 5) (Nat.le_of_ble_eq_true rfl)
  rw [lg_entry_eq]
  generalize (lg_sl ([.int p0, .int p1, .int p2, .int p3]) ++ List.replicate (5 - (lg_sl ([.int p0, .int p1, .int p2, .int p3])).length) Slot.unset).toArray = ls at hl ⊢
  have hl : lv_has ls 5 [(0, .int p0), (1, .int p1), (2, .int p2), (3, .int p3)] := hl
  refine lv_iload_n hx hb dX8_canBeWished_0 rfl (lv_at hl 0 rfl) ?_
  refine ty_iconst hx hb (-1) dX8_canBeWished_1 (by decide) (fun x1 h2 => ?_)
  refine ty_icmp_eq (tgt := 14) hx hb dX8_canBeWished_2 (by decide) (fun c3 => ?_) (fun c3 => ?_)
  · skip
    refine ty_iconst hx hb (1) dX8_canBeWished_14 (by decide) (fun x4 h5 => ?_)
    refine lv_goto (tgt := 19) hx hb dX8_canBeWished_15 (by decide) ?_
    refine lv_istore (lv' := [(4, .int x4), (0, .int p0), (1, .int p1), (2, .int p2), (3, .int p3)]) hx hb dX8_canBeWished_19 hl (by decide) rfl (fun ls hl => ?_)
    refine lv_iload hx hb dX8_canBeWished_21 (lv_at hl 0 rfl) ?_
    refine ty_if_eq (tgt := 56) hx hb dX8_canBeWished_23 (by decide) (fun c6 => ?_) (fun c6 => ?_)
    · exfalso; omega
    · skip
      refine lv_iload_n hx hb dX8_canBeWished_26 rfl (lv_at hl 2 rfl) ?_
      refine cI (va_runS (As := [.int p1]) (rest := []) ⟨hx, hb, hml, hown, hA⟩ (k_X8_isWeek l dC dI dA sz X Γ hU g p1   ) ⟨callB_of 1 hA (al_A wd_2_59) rfl rfl rfl (hA _ wd_1_1) (hA _ wd_2_57) (by decide +kernel) ⟨Nat.le_of_ble_eq_true rfl, Nat.le_of_ble_eq_true rfl⟩, hA _ wd_2_58⟩ ⟨bl, fun U hU9 hW9 => ⟨rfl, by rw [hU9]; exact hG, hE.go hS hU9 hW9⟩⟩ rfl rfl hl.1 rfl (lv_room (Nat.le_of_ble_eq_true rfl)) dX8_canBeWished_27 ⟨Nat.zero_le _, Nat.zero_le _⟩) hS (fun x9 u7 H locs w8 hG hS => ?_)
      obtain ⟨eu10, w8⟩ := w8
      rw [eu10] at hG
      refine ty_if_eq (tgt := 56) hx hb dX8_canBeWished_30 (by decide) (fun c11 => ?_) (fun c11 => ?_)
      · skip
        refine ty_iconst hx hb (0) dX8_canBeWished_56 (by decide) (fun x12 h13 => ?_)
        exact W.zret (v := x12) hx hb hr (ty_nb (by omega)).1 (fun t ht hW => ⟨⟨x12, g, rfl, ⟨rfl, (by omega)⟩, ok1 ht hG⟩, hS.F ht⟩) hS.2.2 dX8_canBeWished_57
      · skip
        refine lv_iload_n hx hb dX8_canBeWished_33 rfl (lv_at hl 3 rfl) ?_
        refine cI (va_runS (As := [.int p2]) (rest := []) ⟨hx, hb, hml, hown, hA⟩ (k_X8_isWeek l dC dI dA sz X Γ hU g p2   ) ⟨callB_of 1 hA (al_A wd_2_59) rfl rfl rfl (hA _ wd_1_1) (hA _ wd_2_57) (by decide +kernel) ⟨Nat.le_of_ble_eq_true rfl, Nat.le_of_ble_eq_true rfl⟩, hA _ wd_2_58⟩ ⟨bl, fun U hU9 hW9 => ⟨rfl, by rw [hU9]; exact hG, hE.go hS hU9 hW9⟩⟩ rfl rfl hl.1 rfl (lv_room (Nat.le_of_ble_eq_true rfl)) dX8_canBeWished_34 ⟨Nat.zero_le _, Nat.zero_le _⟩) hS (fun x16 u14 H locs w15 hG hS => ?_)
        obtain ⟨eu17, w15⟩ := w15
        rw [eu17] at hG
        refine ty_if_eq (tgt := 56) hx hb dX8_canBeWished_37 (by decide) (fun c18 => ?_) (fun c18 => ?_)
        · skip
          refine ty_iconst hx hb (0) dX8_canBeWished_56 (by decide) (fun x19 h20 => ?_)
          exact W.zret (v := x19) hx hb hr (ty_nb (by omega)).1 (fun t ht hW => ⟨⟨x19, g, rfl, ⟨rfl, (by omega)⟩, ok1 ht hG⟩, hS.F ht⟩) hS.2.2 dX8_canBeWished_57
        · skip
          refine lv_iload_n hx hb dX8_canBeWished_40 rfl (lv_at hl 2 rfl) ?_
          refine lv_iload_n hx hb dX8_canBeWished_41 rfl (lv_at hl 3 rfl) ?_
          refine ty_icmp_gt (tgt := 56) hx hb dX8_canBeWished_42 (by decide) (fun c21 => ?_) (fun c21 => ?_)
          · skip
            refine ty_iconst hx hb (0) dX8_canBeWished_56 (by decide) (fun x22 h23 => ?_)
            exact W.zret (v := x22) hx hb hr (ty_nb (by omega)).1 (fun t ht hW => ⟨⟨x22, g, rfl, ⟨rfl, (by omega)⟩, ok1 ht hG⟩, hS.F ht⟩) hS.2.2 dX8_canBeWished_57
          · skip
            refine lv_iload_n hx hb dX8_canBeWished_45 rfl (lv_at hl 4 rfl) ?_
            refine cI (va_runS (As := [.int p3]) (rest := []) ⟨hx, hb, hml, hown, hA⟩ (k_X8_isSize l dC dI dA sz X Γ hU g p3   ) ⟨callB_of 1 hA (al_A wd_1_203) rfl rfl rfl (hA _ wd_1_1) (hA _ wd_1_201) (by decide +kernel) ⟨Nat.le_of_ble_eq_true rfl, Nat.le_of_ble_eq_true rfl⟩, hA _ wd_1_202⟩ ⟨bl, fun U hU9 hW9 => ⟨rfl, by rw [hU9]; exact hG, hE.go hS hU9 hW9⟩⟩ rfl rfl hl.1 rfl (lv_room (Nat.le_of_ble_eq_true rfl)) dX8_canBeWished_46 ⟨Nat.zero_le _, Nat.zero_le _⟩) hS (fun x26 u24 H locs w25 hG hS => ?_)
            obtain ⟨eu27, w25⟩ := w25
            rw [eu27] at hG
            refine ty_if_eq (tgt := 56) hx hb dX8_canBeWished_49 (by decide) (fun c28 => ?_) (fun c28 => ?_)
            · skip
              refine ty_iconst hx hb (0) dX8_canBeWished_56 (by decide) (fun x29 h30 => ?_)
              exact W.zret (v := x29) hx hb hr (ty_nb (by omega)).1 (fun t ht hW => ⟨⟨x29, g, rfl, ⟨rfl, (by omega)⟩, ok1 ht hG⟩, hS.F ht⟩) hS.2.2 dX8_canBeWished_57
            · skip
              refine ty_iconst hx hb (1) dX8_canBeWished_52 (by decide) (fun x31 h32 => ?_)
              refine lv_goto (tgt := 57) hx hb dX8_canBeWished_53 (by decide) ?_
              exact W.zret (v := x31) hx hb hr (ty_nb (by omega)).1 (fun t ht hW => ⟨⟨x31, g, rfl, ⟨rfl, (by omega)⟩, ok1 ht hG⟩, hS.F ht⟩) hS.2.2 dX8_canBeWished_57
  · skip
    refine lv_iload_n hx hb dX8_canBeWished_5 rfl (lv_at hl 0 rfl) ?_
    refine ty_if_lt (tgt := 18) hx hb dX8_canBeWished_6 (by decide) (fun c33 => ?_) (fun c33 => ?_)
    · skip
      refine ty_iconst hx hb (0) dX8_canBeWished_18 (by decide) (fun x34 h35 => ?_)
      refine lv_istore (lv' := [(4, .int x34), (0, .int p0), (1, .int p1), (2, .int p2), (3, .int p3)]) hx hb dX8_canBeWished_19 hl (by decide) rfl (fun ls hl => ?_)
      refine lv_iload hx hb dX8_canBeWished_21 (lv_at hl 0 rfl) ?_
      refine ty_if_eq (tgt := 56) hx hb dX8_canBeWished_23 (by decide) (fun c36 => ?_) (fun c36 => ?_)
      · skip
        refine ty_iconst hx hb (0) dX8_canBeWished_56 (by decide) (fun x37 h38 => ?_)
        exact W.zret (v := x37) hx hb hr (ty_nb (by omega)).1 (fun t ht hW => ⟨⟨x37, g, rfl, ⟨rfl, (by omega)⟩, ok1 ht hG⟩, hS.F ht⟩) hS.2.2 dX8_canBeWished_57
      · exfalso; omega
    · skip
      refine lv_iload_n hx hb dX8_canBeWished_9 rfl (lv_at hl 0 rfl) ?_
      refine ty_iconst hx hb (3) dX8_canBeWished_10 (by decide) (fun x39 h40 => ?_)
      refine ty_icmp_gt (tgt := 18) hx hb dX8_canBeWished_11 (by decide) (fun c41 => ?_) (fun c41 => ?_)
      · skip
        refine ty_iconst hx hb (0) dX8_canBeWished_18 (by decide) (fun x42 h43 => ?_)
        refine lv_istore (lv' := [(4, .int x42), (0, .int p0), (1, .int p1), (2, .int p2), (3, .int p3)]) hx hb dX8_canBeWished_19 hl (by decide) rfl (fun ls hl => ?_)
        refine lv_iload hx hb dX8_canBeWished_21 (lv_at hl 0 rfl) ?_
        refine ty_if_eq (tgt := 56) hx hb dX8_canBeWished_23 (by decide) (fun c44 => ?_) (fun c44 => ?_)
        · skip
          refine ty_iconst hx hb (0) dX8_canBeWished_56 (by decide) (fun x45 h46 => ?_)
          exact W.zret (v := x45) hx hb hr (ty_nb (by omega)).1 (fun t ht hW => ⟨⟨x45, g, rfl, ⟨rfl, (by omega)⟩, ok1 ht hG⟩, hS.F ht⟩) hS.2.2 dX8_canBeWished_57
        · exfalso; omega
      · skip
        refine ty_iconst hx hb (1) dX8_canBeWished_14 (by decide) (fun x47 h48 => ?_)
        refine lv_goto (tgt := 19) hx hb dX8_canBeWished_15 (by decide) ?_
        refine lv_istore (lv' := [(4, .int x47), (0, .int p0), (1, .int p1), (2, .int p2), (3, .int p3)]) hx hb dX8_canBeWished_19 hl (by decide) rfl (fun ls hl => ?_)
        refine lv_iload hx hb dX8_canBeWished_21 (lv_at hl 0 rfl) ?_
        refine ty_if_eq (tgt := 56) hx hb dX8_canBeWished_23 (by decide) (fun c49 => ?_) (fun c49 => ?_)
        · exfalso; omega
        · skip
          refine lv_iload_n hx hb dX8_canBeWished_26 rfl (lv_at hl 2 rfl) ?_
          refine cI (va_runS (As := [.int p1]) (rest := []) ⟨hx, hb, hml, hown, hA⟩ (k_X8_isWeek l dC dI dA sz X Γ hU g p1   ) ⟨callB_of 1 hA (al_A wd_2_59) rfl rfl rfl (hA _ wd_1_1) (hA _ wd_2_57) (by decide +kernel) ⟨Nat.le_of_ble_eq_true rfl, Nat.le_of_ble_eq_true rfl⟩, hA _ wd_2_58⟩ ⟨bl, fun U hU9 hW9 => ⟨rfl, by rw [hU9]; exact hG, hE.go hS hU9 hW9⟩⟩ rfl rfl hl.1 rfl (lv_room (Nat.le_of_ble_eq_true rfl)) dX8_canBeWished_27 ⟨Nat.zero_le _, Nat.zero_le _⟩) hS (fun x52 u50 H locs w51 hG hS => ?_)
          obtain ⟨eu53, w51⟩ := w51
          rw [eu53] at hG
          refine ty_if_eq (tgt := 56) hx hb dX8_canBeWished_30 (by decide) (fun c54 => ?_) (fun c54 => ?_)
          · skip
            refine ty_iconst hx hb (0) dX8_canBeWished_56 (by decide) (fun x55 h56 => ?_)
            exact W.zret (v := x55) hx hb hr (ty_nb (by omega)).1 (fun t ht hW => ⟨⟨x55, g, rfl, ⟨rfl, (by omega)⟩, ok1 ht hG⟩, hS.F ht⟩) hS.2.2 dX8_canBeWished_57
          · skip
            refine lv_iload_n hx hb dX8_canBeWished_33 rfl (lv_at hl 3 rfl) ?_
            refine cI (va_runS (As := [.int p2]) (rest := []) ⟨hx, hb, hml, hown, hA⟩ (k_X8_isWeek l dC dI dA sz X Γ hU g p2   ) ⟨callB_of 1 hA (al_A wd_2_59) rfl rfl rfl (hA _ wd_1_1) (hA _ wd_2_57) (by decide +kernel) ⟨Nat.le_of_ble_eq_true rfl, Nat.le_of_ble_eq_true rfl⟩, hA _ wd_2_58⟩ ⟨bl, fun U hU9 hW9 => ⟨rfl, by rw [hU9]; exact hG, hE.go hS hU9 hW9⟩⟩ rfl rfl hl.1 rfl (lv_room (Nat.le_of_ble_eq_true rfl)) dX8_canBeWished_34 ⟨Nat.zero_le _, Nat.zero_le _⟩) hS (fun x59 u57 H locs w58 hG hS => ?_)
            obtain ⟨eu60, w58⟩ := w58
            rw [eu60] at hG
            refine ty_if_eq (tgt := 56) hx hb dX8_canBeWished_37 (by decide) (fun c61 => ?_) (fun c61 => ?_)
            · skip
              refine ty_iconst hx hb (0) dX8_canBeWished_56 (by decide) (fun x62 h63 => ?_)
              exact W.zret (v := x62) hx hb hr (ty_nb (by omega)).1 (fun t ht hW => ⟨⟨x62, g, rfl, ⟨rfl, (by omega)⟩, ok1 ht hG⟩, hS.F ht⟩) hS.2.2 dX8_canBeWished_57
            · skip
              refine lv_iload_n hx hb dX8_canBeWished_40 rfl (lv_at hl 2 rfl) ?_
              refine lv_iload_n hx hb dX8_canBeWished_41 rfl (lv_at hl 3 rfl) ?_
              refine ty_icmp_gt (tgt := 56) hx hb dX8_canBeWished_42 (by decide) (fun c64 => ?_) (fun c64 => ?_)
              · skip
                refine ty_iconst hx hb (0) dX8_canBeWished_56 (by decide) (fun x65 h66 => ?_)
                exact W.zret (v := x65) hx hb hr (ty_nb (by omega)).1 (fun t ht hW => ⟨⟨x65, g, rfl, ⟨rfl, (by omega)⟩, ok1 ht hG⟩, hS.F ht⟩) hS.2.2 dX8_canBeWished_57
              · skip
                refine lv_iload_n hx hb dX8_canBeWished_45 rfl (lv_at hl 4 rfl) ?_
                refine cI (va_runS (As := [.int p3]) (rest := []) ⟨hx, hb, hml, hown, hA⟩ (k_X8_isSize l dC dI dA sz X Γ hU g p3   ) ⟨callB_of 1 hA (al_A wd_1_203) rfl rfl rfl (hA _ wd_1_1) (hA _ wd_1_201) (by decide +kernel) ⟨Nat.le_of_ble_eq_true rfl, Nat.le_of_ble_eq_true rfl⟩, hA _ wd_1_202⟩ ⟨bl, fun U hU9 hW9 => ⟨rfl, by rw [hU9]; exact hG, hE.go hS hU9 hW9⟩⟩ rfl rfl hl.1 rfl (lv_room (Nat.le_of_ble_eq_true rfl)) dX8_canBeWished_46 ⟨Nat.zero_le _, Nat.zero_le _⟩) hS (fun x69 u67 H locs w68 hG hS => ?_)
                obtain ⟨eu70, w68⟩ := w68
                rw [eu70] at hG
                refine ty_if_eq (tgt := 56) hx hb dX8_canBeWished_49 (by decide) (fun c71 => ?_) (fun c71 => ?_)
                · skip
                  refine ty_iconst hx hb (0) dX8_canBeWished_56 (by decide) (fun x72 h73 => ?_)
                  exact W.zret (v := x72) hx hb hr (ty_nb (by omega)).1 (fun t ht hW => ⟨⟨x72, g, rfl, ⟨rfl, (by omega)⟩, ok1 ht hG⟩, hS.F ht⟩) hS.2.2 dX8_canBeWished_57
                · skip
                  refine ty_iconst hx hb (1) dX8_canBeWished_52 (by decide) (fun x74 h75 => ?_)
                  refine lv_goto (tgt := 57) hx hb dX8_canBeWished_53 (by decide) ?_
                  exact W.zret (v := x74) hx hb hr (ty_nb (by omega)).1 (fun t ht hW => ⟨⟨x74, g, rfl, ⟨rfl, (by omega)⟩, ok1 ht hG⟩, hS.F ht⟩) hS.2.2 dX8_canBeWished_57

set_option maxHeartbeats 4000000 in
set_option maxRecDepth 100000 in
/-- WeekBank.countGifts:  -/
theorem k_X8_countGifts (l : Launch) (dC : Nat → ClassId) (dI : Nat → Nat → Nat) (dA : Nat → ClassId) (sz : Nat) (X : va_W) (Γ : ty_G) (hU : Un Γ) (g : gh) (h0 : Nat) (t_h0 : ty Γ h0 1) (p1 : Int32) (g3 : g 3 0 = g 35 0 ∧ 0 ≤ g 3 0 ∧ g 3 0 ≤ 200) : Met l yX8_countGifts (.code yX8_countGifts cX8_countGifts 4 (Option.some Jvm.ClassFile.FieldType.int) :: AL) ({ frames := 0, cells := 0, slots := 0, locals := 0 }) (PCx dC dI dA sz X Γ g [.ref h0, .int p1]) (va_Qi (fun (r : Int32) (u : gh) => u = g) (okb dC dI dA sz X Γ) (ty_A sz)) 0 0 (ty_A sz) := by
  refine Met.ofW (cc := cX8_countGifts) (maxL := 4) (ret := (Option.some Jvm.ClassFile.FieldType.int)) (by decide) rfl ?_
  intro p e s m args below meth c s₁ B hml hv
  obtain ⟨rfl, hG, hE⟩ := hv
  have hx := B.exec
  have hb := B.bytes
  have hr := B.returns
  have hts := atoms_spec B.pre
  have hA : ∀ w ∈ AL, w.before _ s = true := fun w h => hts w (List.mem_cons_of_mem _ h)
  have hown : s.vm.findClass RX8 = some m.cls := findClass_of_methodNamed B.named
  have hlocks := B.notSynchronized
  have hS : va_S (ty_A sz) s.heap s.heap [] := va_S.rf
  have hl := lv_entry ([.ref h0, .int p1]) (n := 4) (Nat.le_of_ble_eq_true rfl)
  rw [lg_entry_eq]
  generalize (lg_sl ([.ref h0, .int p1]) ++ List.replicate (4 - (lg_sl ([.ref h0, .int p1])).length) Slot.unset).toArray = ls at hl ⊢
  have hl : lv_has ls 4 [(0, .ref h0), (1, .int p1)] := hl
  refine ty_iconst hx hb (0) dX8_countGifts_0 (by decide) (fun x1 h2 => ?_)
  refine lv_istore_n (lv' := [(2, .int x1), (0, .ref h0), (1, .int p1)]) hx hb dX8_countGifts_1 rfl hl (by decide) rfl (fun ls hl => ?_)
  refine ty_iconst hx hb (0) dX8_countGifts_2 (by decide) (fun x3 h4 => ?_)
  refine lv_istore_n (lv' := [(3, .int x3), (2, .int x1), (0, .ref h0), (1, .int p1)]) hx hb dX8_countGifts_3 rfl hl (by decide) rfl (fun ls hl => ?_)
  have L_4 : ∀ (n : Nat) (v3_4 : Int32) (v2_4 : Int32) (H : Heap) (locs : List Loc) (ls : Array Slot), (g 3 0 - v3_4.toInt : Int) < n → 0 ≤ v3_4.toInt ∧ v3_4.toInt ≤ g 3 0 → ty_ok (dC, dI) vwCl Γ (TP dA Γ g) sz X H → va_S (ty_A sz) s.heap H locs → lv_has ls 4 [(3, .int v3_4), (2, .int v2_4), (0, .ref h0), (1, .int p1)] → W p l e (headSpec (.code yX8_countGifts cX8_countGifts 4 (Option.some Jvm.ClassFile.FieldType.int) :: AL) ({ frames := 0, cells := 0, slots := 0, locals := 0 })).room s m ([.ref h0, .int p1] : List Value).toArray below meth c H locs 0 0 (MQ below (va_Qi (fun (r : Int32) (u : gh) => u = g) (okb dC dI dA sz X Γ) (ty_A sz)) ([.ref h0, .int p1] : List Value).toArray s 0 0 (ty_A sz)) (F0 m 4 ls []) := by
    intro n
    induction n with
    | zero => intro v3_4 v2_4 H locs ls hm hi0 hG hS hl; exfalso; omega
    | succ n ih_4 =>
      intro v3_4 v2_4 H locs ls hm hi0 hG hS hl
      refine lv_iload_n hx hb dX8_countGifts_4 rfl (lv_at hl 0 rfl) ?_
      refine lv_aload_n hx hb dX8_countGifts_5 rfl (lv_at hl 2 rfl) ?_
      refine get_X8_5 hx hb hA hown hE hG t_h0 wd_1_162 dX8_countGifts_6 (fun x6 h7 => ?_)
      refine ty_icmp_ge (tgt := 34) hx hb dX8_countGifts_9 (by decide) (fun c9 => ?_) (fun c9 => ?_)
      · skip
        refine lv_iload_n hx hb dX8_countGifts_34 rfl (lv_at hl 1 rfl) ?_
        exact W.iret (v := v2_4) hx hb hr (fun t ht hW => ⟨⟨v2_4, g, rfl, rfl, ok1 ht hG⟩, hS.F ht⟩) hS.2.2 dX8_countGifts_35
      · skip
        refine lv_aload_n hx hb dX8_countGifts_12 rfl (lv_at hl 2 rfl) ?_
        refine get_X8_4 hx hb hA hown hE hG t_h0 wd_1_161 dX8_countGifts_13 (fun b10 (t_b10 : ty Γ b10 12) => ?_)
        refine lv_iload_n hx hb dX8_countGifts_16 rfl (lv_at hl 0 rfl) ?_
        refine ald_12 hx hb hE hG t_b10 (by omega) dX8_countGifts_17 (fun j12 r11 h13 t_r11 h14 => ?_)
        obtain ⟨b15, rfl⟩ := Option.ne_none_iff_exists'.mp (h14 (by omega))
        have t_b15 : ty Γ b15 4 := t_r11 b15 rfl
        have hl : lv_has ls 4 [(3, .int v3_4), (2, .int v2_4), (0, .ref h0), (1, .int p1)] := hl
        refine get_X2_6 hx hb hA hown hE hG t_b15 wd_3_34 dX8_countGifts_18 (fun x16 => ?_)
        refine lv_iload_n hx hb dX8_countGifts_21 rfl (lv_at hl 3 rfl) ?_
        refine ty_icmp_ne (tgt := 28) hx hb dX8_countGifts_22 (by decide) (fun c17 => ?_) (fun c17 => ?_)
        · skip
          obtain ⟨x18, h19⟩ : ∃ y : Int32, y = v3_4 + Int32.ofInt (1) := ⟨_, rfl⟩
          try have h20 : x18.toInt = v3_4.toInt + (1) := ty_inc h19 (by decide) (by omega) (by omega)
          refine lv_iinc (v := x18) (lv' := [(3, .int x18), (2, .int v2_4), (0, .ref h0), (1, .int p1)]) hx hb dX8_countGifts_28 hl (k := 0) rfl h19.symm (by decide) rfl (fun ls hl => ?_)
          refine lv_goto (tgt := 4) hx hb dX8_countGifts_31 (by decide) ?_
          exact ih_4 x18 v2_4 _ _ ls (by omega) (by omega) hG hS (lv_sub hl [0, 1, 2, 3] rfl)
        · skip
          obtain ⟨x21, h22⟩ : ∃ y : Int32, y = v2_4 + Int32.ofInt (1) := ⟨_, rfl⟩
          try have h23 : x21.toInt = v2_4.toInt + (1) := ty_inc h22 (by decide) (by omega) (by omega)
          refine lv_iinc (v := x21) (lv' := [(2, .int x21), (3, .int v3_4), (0, .ref h0), (1, .int p1)]) hx hb dX8_countGifts_25 hl (k := 1) rfl h22.symm (by decide) rfl (fun ls hl => ?_)
          obtain ⟨x24, h25⟩ : ∃ y : Int32, y = v3_4 + Int32.ofInt (1) := ⟨_, rfl⟩
          try have h26 : x24.toInt = v3_4.toInt + (1) := ty_inc h25 (by decide) (by omega) (by omega)
          refine lv_iinc (v := x24) (lv' := [(3, .int x24), (2, .int x21), (0, .ref h0), (1, .int p1)]) hx hb dX8_countGifts_28 hl (k := 1) rfl h25.symm (by decide) rfl (fun ls hl => ?_)
          refine lv_goto (tgt := 4) hx hb dX8_countGifts_31 (by decide) ?_
          exact ih_4 x24 x21 _ _ ls (by omega) (by omega) hG hS (lv_sub hl [0, 1, 2, 3] rfl)
  exact L_4 ((g 3 0 - x3.toInt) + 1).toNat x3 x1 _ _ ls (by omega) (by omega) hG hS (lv_sub hl [0, 1, 2, 3] rfl)

set_option maxHeartbeats 4000000 in
set_option maxRecDepth 100000 in
/-- WeekBank.sumPoints:  -/
theorem k_X8_sumPoints (l : Launch) (dC : Nat → ClassId) (dI : Nat → Nat → Nat) (dA : Nat → ClassId) (sz : Nat) (X : va_W) (Γ : ty_G) (hU : Un Γ) (g : gh) (h0 : Nat) (t_h0 : ty Γ h0 1) (g2 : g 2 0 = g 34 0 ∧ 0 ≤ g 2 0 ∧ g 2 0 ≤ 10) : Met l yX8_sumPoints (.code yX8_sumPoints cX8_sumPoints 3 (Option.some Jvm.ClassFile.FieldType.int) :: AL) ({ frames := 0, cells := 0, slots := 0, locals := 0 }) (PCx dC dI dA sz X Γ g [.ref h0]) (va_Qi (fun (r : Int32) (u : gh) => u = g) (okb dC dI dA sz X Γ) (ty_A sz)) 0 0 (ty_A sz) := by
  refine Met.ofW (cc := cX8_sumPoints) (maxL := 3) (ret := (Option.some Jvm.ClassFile.FieldType.int)) (by decide) rfl ?_
  intro p e s m args below meth c s₁ B hml hv
  obtain ⟨rfl, hG, hE⟩ := hv
  have hx := B.exec
  have hb := B.bytes
  have hr := B.returns
  have hts := atoms_spec B.pre
  have hA : ∀ w ∈ AL, w.before _ s = true := fun w h => hts w (List.mem_cons_of_mem _ h)
  have hown : s.vm.findClass RX8 = some m.cls := findClass_of_methodNamed B.named
  have hlocks := B.notSynchronized
  have hS : va_S (ty_A sz) s.heap s.heap [] := va_S.rf
  have hl := lv_entry ([.ref h0]) (n := 3) (Nat.le_of_ble_eq_true rfl)
  rw [lg_entry_eq]
  generalize (lg_sl ([.ref h0]) ++ List.replicate (3 - (lg_sl ([.ref h0])).length) Slot.unset).toArray = ls at hl ⊢
  have hl : lv_has ls 3 [(0, .ref h0)] := hl
  refine ty_iconst hx hb (0) dX8_sumPoints_0 (by decide) (fun x1 h2 => ?_)
  refine lv_istore_n (lv' := [(1, .int x1), (0, .ref h0)]) hx hb dX8_sumPoints_1 rfl hl (by decide) rfl (fun ls hl => ?_)
  refine ty_iconst hx hb (0) dX8_sumPoints_2 (by decide) (fun x3 h4 => ?_)
  refine lv_istore_n (lv' := [(2, .int x3), (1, .int x1), (0, .ref h0)]) hx hb dX8_sumPoints_3 rfl hl (by decide) rfl (fun ls hl => ?_)
  have L_4 : ∀ (n : Nat) (v2_4 : Int32) (v1_4 : Int32) (H : Heap) (locs : List Loc) (ls : Array Slot), (g 2 0 - v2_4.toInt : Int) < n → 0 ≤ v2_4.toInt ∧ v2_4.toInt ≤ g 2 0 → ty_ok (dC, dI) vwCl Γ (TP dA Γ g) sz X H → va_S (ty_A sz) s.heap H locs → lv_has ls 3 [(2, .int v2_4), (1, .int v1_4), (0, .ref h0)] → W p l e (headSpec (.code yX8_sumPoints cX8_sumPoints 3 (Option.some Jvm.ClassFile.FieldType.int) :: AL) ({ frames := 0, cells := 0, slots := 0, locals := 0 })).room s m ([.ref h0] : List Value).toArray below meth c H locs 0 0 (MQ below (va_Qi (fun (r : Int32) (u : gh) => u = g) (okb dC dI dA sz X Γ) (ty_A sz)) ([.ref h0] : List Value).toArray s 0 0 (ty_A sz)) (F0 m 4 ls []) := by
    intro n
    induction n with
    | zero => intro v2_4 v1_4 H locs ls hm hi0 hG hS hl; exfalso; omega
    | succ n ih_4 =>
      intro v2_4 v1_4 H locs ls hm hi0 hG hS hl
      refine lv_iload_n hx hb dX8_sumPoints_4 rfl (lv_at hl 0 rfl) ?_
      refine lv_aload_n hx hb dX8_sumPoints_5 rfl (lv_at hl 2 rfl) ?_
      refine get_X8_3 hx hb hA hown hE hG t_h0 wd_1_160 dX8_sumPoints_6 (fun x6 h7 => ?_)
      refine ty_icmp_ge (tgt := 30) hx hb dX8_sumPoints_9 (by decide) (fun c9 => ?_) (fun c9 => ?_)
      · skip
        refine lv_iload_n hx hb dX8_sumPoints_30 rfl (lv_at hl 1 rfl) ?_
        exact W.iret (v := v1_4) hx hb hr (fun t ht hW => ⟨⟨v1_4, g, rfl, rfl, ok1 ht hG⟩, hS.F ht⟩) hS.2.2 dX8_sumPoints_31
      · skip
        refine lv_iload_n hx hb dX8_sumPoints_12 rfl (lv_at hl 1 rfl) ?_
        refine lv_aload_n hx hb dX8_sumPoints_13 rfl (lv_at hl 2 rfl) ?_
        refine get_X8_2 hx hb hA hown hE hG t_h0 wd_1_159 dX8_sumPoints_14 (fun b10 (t_b10 : ty Γ b10 11) => ?_)
        refine lv_iload_n hx hb dX8_sumPoints_17 rfl (lv_at hl 0 rfl) ?_
        refine ald_11 hx hb hE hG t_b10 (by omega) dX8_sumPoints_18 (fun j12 r11 h13 t_r11 h14 => ?_)
        obtain ⟨b15, rfl⟩ := Option.ne_none_iff_exists'.mp (h14 (by omega))
        have t_b15 : ty Γ b15 3 := t_r11 b15 rfl
        have hl : lv_has ls 3 [(2, .int v2_4), (1, .int v1_4), (0, .ref h0)] := hl
        refine get_X3_2 hx hb hA hown hE hG t_b15 wd_2_12 dX8_sumPoints_19 (fun x16 => ?_)
        refine ty_iadd hx hb dX8_sumPoints_22 (fun x17 h18 => ?_)
        refine lv_istore_n (lv' := [(1, .int x17), (2, .int v2_4), (0, .ref h0)]) hx hb dX8_sumPoints_23 rfl hl (by decide) rfl (fun ls hl => ?_)
        obtain ⟨x20, h21⟩ : ∃ y : Int32, y = v2_4 + Int32.ofInt (1) := ⟨_, rfl⟩
        try have h22 : x20.toInt = v2_4.toInt + (1) := ty_inc h21 (by decide) (by omega) (by omega)
        refine lv_iinc (v := x20) (lv' := [(2, .int x20), (1, .int x17), (0, .ref h0)]) hx hb dX8_sumPoints_24 hl (k := 1) rfl h21.symm (by decide) rfl (fun ls hl => ?_)
        refine lv_goto (tgt := 4) hx hb dX8_sumPoints_27 (by decide) ?_
        exact ih_4 x20 x17 _ _ ls (by omega) (by omega) hG hS (lv_sub hl [0, 1, 2] rfl)
  exact L_4 ((g 2 0 - x3.toInt) + 1).toNat x3 x1 _ _ ls (by omega) (by omega) hG hS (lv_sub hl [0, 1, 2] rfl)

set_option maxHeartbeats 4000000 in
set_option maxRecDepth 100000 in
/-- WeekBank.endUnusedGifts:  -/
theorem k_X8_endUnusedGifts (l : Launch) (dC : Nat → ClassId) (dI : Nat → Nat → Nat) (dA : Nat → ClassId) (sz : Nat) (X : va_W) (Γ : ty_G) (hU : Un Γ) (g : gh) (h0 : Nat) (t_h0 : ty Γ h0 1) (p1 : Int32) (g3 : g 3 0 = g 35 0 ∧ 0 ≤ g 3 0 ∧ g 3 0 ≤ 200) : Met l yX8_endUnusedGifts (.code yX8_endUnusedGifts cX8_endUnusedGifts 5 (Option.none : Option Jvm.ClassFile.FieldType) :: AL) ({ frames := 0, cells := 0, slots := 0, locals := 0 }) (PCx dC dI dA sz X Γ g [.ref h0, .int p1]) (va_Qv (fun (u : gh) => u = g) (okb dC dI dA sz X Γ) (ty_A sz)) 0 0 (ty_A sz) := by
  refine Met.ofW (cc := cX8_endUnusedGifts) (maxL := 5) (ret := (Option.none : Option Jvm.ClassFile.FieldType)) (by decide) rfl ?_
  intro p e s m args below meth c s₁ B hml hv
  obtain ⟨rfl, hG, hE⟩ := hv
  have hx := B.exec
  have hb := B.bytes
  have hr := B.returns
  have hts := atoms_spec B.pre
  have hA : ∀ w ∈ AL, w.before _ s = true := fun w h => hts w (List.mem_cons_of_mem _ h)
  have hown : s.vm.findClass RX8 = some m.cls := findClass_of_methodNamed B.named
  have hlocks := B.notSynchronized
  have hS : va_S (ty_A sz) s.heap s.heap [] := va_S.rf
  have hl := lv_entry ([.ref h0, .int p1]) (n := 5) (Nat.le_of_ble_eq_true rfl)
  rw [lg_entry_eq]
  generalize (lg_sl ([.ref h0, .int p1]) ++ List.replicate (5 - (lg_sl ([.ref h0, .int p1])).length) Slot.unset).toArray = ls at hl ⊢
  have hl : lv_has ls 5 [(0, .ref h0), (1, .int p1)] := hl
  refine ty_iconst hx hb (0) dX8_endUnusedGifts_0 (by decide) (fun x1 h2 => ?_)
  refine lv_istore_n (lv' := [(2, .int x1), (0, .ref h0), (1, .int p1)]) hx hb dX8_endUnusedGifts_1 rfl hl (by decide) rfl (fun ls hl => ?_)
  have L_2 : ∀ (n : Nat) (v2_2 : Int32) (H : Heap) (locs : List Loc) (ls : Array Slot), (g 3 0 - v2_2.toInt : Int) < n → 0 ≤ v2_2.toInt ∧ v2_2.toInt ≤ g 3 0 → ty_ok (dC, dI) vwCl Γ (TP dA Γ g) sz X H → va_S (ty_A sz) s.heap H locs → lv_has ls 5 [(2, .int v2_2), (0, .ref h0), (1, .int p1)] → W p l e (headSpec (.code yX8_endUnusedGifts cX8_endUnusedGifts 5 (Option.none : Option Jvm.ClassFile.FieldType) :: AL) ({ frames := 0, cells := 0, slots := 0, locals := 0 })).room s m ([.ref h0, .int p1] : List Value).toArray below meth c H locs 0 0 (MQ below (va_Qv (fun (u : gh) => u = g) (okb dC dI dA sz X Γ) (ty_A sz)) ([.ref h0, .int p1] : List Value).toArray s 0 0 (ty_A sz)) (F0 m 2 ls []) := by
    intro n
    induction n with
    | zero => intro v2_2 H locs ls hm hi0 hG hS hl; exfalso; omega
    | succ n ih_2 =>
      intro v2_2 H locs ls hm hi0 hG hS hl
      refine lv_iload_n hx hb dX8_endUnusedGifts_2 rfl (lv_at hl 0 rfl) ?_
      refine lv_aload_n hx hb dX8_endUnusedGifts_3 rfl (lv_at hl 1 rfl) ?_
      refine get_X8_5 hx hb hA hown hE hG t_h0 wd_1_162 dX8_endUnusedGifts_4 (fun x4 h5 => ?_)
      refine ty_icmp_ge (tgt := 63) hx hb dX8_endUnusedGifts_7 (by decide) (fun c7 => ?_) (fun c7 => ?_)
      · skip
        exact W.vret hx hb hr (fun t ht hW => ⟨⟨g, rfl, rfl, ok1 ht hG⟩, hS.F ht⟩) hS.2.2 dX8_endUnusedGifts_63
      · skip
        refine lv_aload_n hx hb dX8_endUnusedGifts_10 rfl (lv_at hl 1 rfl) ?_
        refine get_X8_4 hx hb hA hown hE hG t_h0 wd_1_161 dX8_endUnusedGifts_11 (fun b8 (t_b8 : ty Γ b8 12) => ?_)
        refine lv_iload_n hx hb dX8_endUnusedGifts_14 rfl (lv_at hl 0 rfl) ?_
        refine ald_12 hx hb hE hG t_b8 (by omega) dX8_endUnusedGifts_15 (fun j10 r9 h11 t_r9 h12 => ?_)
        refine ty_astore_nq (lv' := [(3, va_rf r9), (2, .int v2_2), (0, .ref h0), (1, .int p1)]) hx hb dX8_endUnusedGifts_16 rfl hl (by decide) rfl (fun ls hl => ?_)
        refine ty_aload_nq hx hb dX8_endUnusedGifts_17 rfl (lv_at hl 0 rfl) ?_
        obtain ⟨b13, rfl⟩ := Option.ne_none_iff_exists'.mp (h12 (by omega))
        have t_b13 : ty Γ b13 4 := t_r9 b13 rfl
        have hl : lv_has ls 5 [(3, .ref b13), (2, .int v2_2), (0, .ref h0), (1, .int p1)] := hl
        refine get_X2_6 hx hb hA hown hE hG t_b13 wd_3_34 dX8_endUnusedGifts_18 (fun x14 => ?_)
        refine ty_if_eq (tgt := 32) hx hb dX8_endUnusedGifts_21 (by decide) (fun c15 => ?_) (fun c15 => ?_)
        · skip
          refine ty_iconst hx hb (1) dX8_endUnusedGifts_32 (by decide) (fun x16 h17 => ?_)
          refine lv_goto (tgt := 37) hx hb dX8_endUnusedGifts_33 (by decide) ?_
          refine lv_istore (lv' := [(4, .int x16), (3, .ref b13), (2, .int v2_2), (0, .ref h0), (1, .int p1)]) hx hb dX8_endUnusedGifts_37 hl (by decide) rfl (fun ls hl => ?_)
          refine lv_iload hx hb dX8_endUnusedGifts_39 (lv_at hl 0 rfl) ?_
          refine ty_if_eq (tgt := 57) hx hb dX8_endUnusedGifts_41 (by decide) (fun c18 => ?_) (fun c18 => ?_)
          · exfalso; omega
          · skip
            refine lv_aload_n hx hb dX8_endUnusedGifts_44 rfl (lv_at hl 1 rfl) ?_
            refine get_X2_3 hx hb hA hown hE hG t_b13 wd_3_26 dX8_endUnusedGifts_45 (fun x19 => ?_)
            refine lv_iload_n hx hb dX8_endUnusedGifts_48 rfl (lv_at hl 4 rfl) ?_
            refine ty_icmp_gt (tgt := 57) hx hb dX8_endUnusedGifts_49 (by decide) (fun c20 => ?_) (fun c20 => ?_)
            · skip
              obtain ⟨x21, h22⟩ : ∃ y : Int32, y = v2_2 + Int32.ofInt (1) := ⟨_, rfl⟩
              try have h23 : x21.toInt = v2_2.toInt + (1) := ty_inc h22 (by decide) (by omega) (by omega)
              refine lv_iinc (v := x21) (lv' := [(2, .int x21), (4, .int x16), (3, .ref b13), (0, .ref h0), (1, .int p1)]) hx hb dX8_endUnusedGifts_57 hl (k := 2) rfl h22.symm (by decide) rfl (fun ls hl => ?_)
              refine lv_goto (tgt := 2) hx hb dX8_endUnusedGifts_60 (by decide) ?_
              exact ih_2 x21 _ _ ls (by omega) (by omega) hG hS (lv_sub hl [0, 3, 4] rfl)
            · skip
              refine lv_aload_n hx hb dX8_endUnusedGifts_52 rfl (lv_at hl 1 rfl) ?_
              refine ty_iconst hx hb (5) dX8_endUnusedGifts_53 (by decide) (fun x24 h25 => ?_)
              refine put_X2_6 hx hb hA hown hE hG hS t_b13 wd_3_34 dX8_endUnusedGifts_54 (fun H locs hG hS => ?_)
              obtain ⟨x26, h27⟩ : ∃ y : Int32, y = v2_2 + Int32.ofInt (1) := ⟨_, rfl⟩
              try have h28 : x26.toInt = v2_2.toInt + (1) := ty_inc h27 (by decide) (by omega) (by omega)
              refine lv_iinc (v := x26) (lv' := [(2, .int x26), (4, .int x16), (3, .ref b13), (0, .ref h0), (1, .int p1)]) hx hb dX8_endUnusedGifts_57 hl (k := 2) rfl h27.symm (by decide) rfl (fun ls hl => ?_)
              refine lv_goto (tgt := 2) hx hb dX8_endUnusedGifts_60 (by decide) ?_
              exact ih_2 x26 _ _ ls (by omega) (by omega) hG hS (lv_sub hl [0, 3, 4] rfl)
        · skip
          refine lv_aload_n hx hb dX8_endUnusedGifts_24 rfl (lv_at hl 0 rfl) ?_
          refine get_X2_6 hx hb hA hown hE hG t_b13 wd_3_34 dX8_endUnusedGifts_25 (fun x29 => ?_)
          refine ty_iconst hx hb (2) dX8_endUnusedGifts_28 (by decide) (fun x30 h31 => ?_)
          refine ty_icmp_ne (tgt := 36) hx hb dX8_endUnusedGifts_29 (by decide) (fun c32 => ?_) (fun c32 => ?_)
          · skip
            refine ty_iconst hx hb (0) dX8_endUnusedGifts_36 (by decide) (fun x33 h34 => ?_)
            refine lv_istore (lv' := [(4, .int x33), (3, .ref b13), (2, .int v2_2), (0, .ref h0), (1, .int p1)]) hx hb dX8_endUnusedGifts_37 hl (by decide) rfl (fun ls hl => ?_)
            refine lv_iload hx hb dX8_endUnusedGifts_39 (lv_at hl 0 rfl) ?_
            refine ty_if_eq (tgt := 57) hx hb dX8_endUnusedGifts_41 (by decide) (fun c35 => ?_) (fun c35 => ?_)
            · skip
              obtain ⟨x36, h37⟩ : ∃ y : Int32, y = v2_2 + Int32.ofInt (1) := ⟨_, rfl⟩
              try have h38 : x36.toInt = v2_2.toInt + (1) := ty_inc h37 (by decide) (by omega) (by omega)
              refine lv_iinc (v := x36) (lv' := [(2, .int x36), (4, .int x33), (3, .ref b13), (0, .ref h0), (1, .int p1)]) hx hb dX8_endUnusedGifts_57 hl (k := 2) rfl h37.symm (by decide) rfl (fun ls hl => ?_)
              refine lv_goto (tgt := 2) hx hb dX8_endUnusedGifts_60 (by decide) ?_
              exact ih_2 x36 _ _ ls (by omega) (by omega) hG hS (lv_sub hl [0, 3, 4] rfl)
            · exfalso; omega
          · skip
            refine ty_iconst hx hb (1) dX8_endUnusedGifts_32 (by decide) (fun x39 h40 => ?_)
            refine lv_goto (tgt := 37) hx hb dX8_endUnusedGifts_33 (by decide) ?_
            refine lv_istore (lv' := [(4, .int x39), (3, .ref b13), (2, .int v2_2), (0, .ref h0), (1, .int p1)]) hx hb dX8_endUnusedGifts_37 hl (by decide) rfl (fun ls hl => ?_)
            refine lv_iload hx hb dX8_endUnusedGifts_39 (lv_at hl 0 rfl) ?_
            refine ty_if_eq (tgt := 57) hx hb dX8_endUnusedGifts_41 (by decide) (fun c41 => ?_) (fun c41 => ?_)
            · exfalso; omega
            · skip
              refine lv_aload_n hx hb dX8_endUnusedGifts_44 rfl (lv_at hl 1 rfl) ?_
              refine get_X2_3 hx hb hA hown hE hG t_b13 wd_3_26 dX8_endUnusedGifts_45 (fun x42 => ?_)
              refine lv_iload_n hx hb dX8_endUnusedGifts_48 rfl (lv_at hl 4 rfl) ?_
              refine ty_icmp_gt (tgt := 57) hx hb dX8_endUnusedGifts_49 (by decide) (fun c43 => ?_) (fun c43 => ?_)
              · skip
                obtain ⟨x44, h45⟩ : ∃ y : Int32, y = v2_2 + Int32.ofInt (1) := ⟨_, rfl⟩
                try have h46 : x44.toInt = v2_2.toInt + (1) := ty_inc h45 (by decide) (by omega) (by omega)
                refine lv_iinc (v := x44) (lv' := [(2, .int x44), (4, .int x39), (3, .ref b13), (0, .ref h0), (1, .int p1)]) hx hb dX8_endUnusedGifts_57 hl (k := 2) rfl h45.symm (by decide) rfl (fun ls hl => ?_)
                refine lv_goto (tgt := 2) hx hb dX8_endUnusedGifts_60 (by decide) ?_
                exact ih_2 x44 _ _ ls (by omega) (by omega) hG hS (lv_sub hl [0, 3, 4] rfl)
              · skip
                refine lv_aload_n hx hb dX8_endUnusedGifts_52 rfl (lv_at hl 1 rfl) ?_
                refine ty_iconst hx hb (5) dX8_endUnusedGifts_53 (by decide) (fun x47 h48 => ?_)
                refine put_X2_6 hx hb hA hown hE hG hS t_b13 wd_3_34 dX8_endUnusedGifts_54 (fun H locs hG hS => ?_)
                obtain ⟨x49, h50⟩ : ∃ y : Int32, y = v2_2 + Int32.ofInt (1) := ⟨_, rfl⟩
                try have h51 : x49.toInt = v2_2.toInt + (1) := ty_inc h50 (by decide) (by omega) (by omega)
                refine lv_iinc (v := x49) (lv' := [(2, .int x49), (4, .int x39), (3, .ref b13), (0, .ref h0), (1, .int p1)]) hx hb dX8_endUnusedGifts_57 hl (k := 2) rfl h50.symm (by decide) rfl (fun ls hl => ?_)
                refine lv_goto (tgt := 2) hx hb dX8_endUnusedGifts_60 (by decide) ?_
                exact ih_2 x49 _ _ ls (by omega) (by omega) hG hS (lv_sub hl [0, 3, 4] rfl)
  exact L_2 ((g 3 0 - x1.toInt) + 1).toNat x1 _ _ ls (by omega) (by omega) hG hS (lv_sub hl [0, 1, 2] rfl)

set_option maxHeartbeats 4000000 in
set_option maxRecDepth 100000 in
/-- WeekBank.firstInLine:  -/
theorem k_X8_firstInLine (l : Launch) (dC : Nat → ClassId) (dI : Nat → Nat → Nat) (dA : Nat → ClassId) (sz : Nat) (X : va_W) (Γ : ty_G) (hU : Un Γ) (g : gh) (h0 : Nat) (t_h0 : ty Γ h0 1) (g2 : g 2 0 = g 34 0 ∧ 0 ≤ g 2 0 ∧ g 2 0 ≤ 10) : Met l yX8_firstInLine (.code yX8_firstInLine cX8_firstInLine 3 (Option.some (Jvm.ClassFile.FieldType.object "WeekBank$Owner")) :: AL) ({ frames := 0, cells := 0, slots := 0, locals := 0 }) (PCx dC dI dA sz X Γ g [.ref h0]) (va_Qq (fun (r : Option Nat) (u : gh) => (∀ b, r = some b → (Γ b).1 = 3) ∧ u = g) (okb dC dI dA sz X Γ) (ty_A sz)) 0 0 (ty_A sz) := by
  refine Met.ofW (cc := cX8_firstInLine) (maxL := 3) (ret := (Option.some (Jvm.ClassFile.FieldType.object "WeekBank$Owner"))) (by decide) rfl ?_
  intro p e s m args below meth c s₁ B hml hv
  obtain ⟨rfl, hG, hE⟩ := hv
  have hx := B.exec
  have hb := B.bytes
  have hr := B.returns
  have hts := atoms_spec B.pre
  have hA : ∀ w ∈ AL, w.before _ s = true := fun w h => hts w (List.mem_cons_of_mem _ h)
  have hown : s.vm.findClass RX8 = some m.cls := findClass_of_methodNamed B.named
  have hlocks := B.notSynchronized
  have hS : va_S (ty_A sz) s.heap s.heap [] := va_S.rf
  have hl := lv_entry ([.ref h0]) (n := 3) (Nat.le_of_ble_eq_true rfl)
  rw [lg_entry_eq]
  generalize (lg_sl ([.ref h0]) ++ List.replicate (3 - (lg_sl ([.ref h0])).length) Slot.unset).toArray = ls at hl ⊢
  have hl : lv_has ls 3 [(0, .ref h0)] := hl
  refine lv_null hx hb dX8_firstInLine_0 ?_
  refine lv_astore_nN (lv' := [(1, .null), (0, .ref h0)]) hx hb dX8_firstInLine_1 rfl hl (by decide) rfl (fun ls hl => ?_)
  refine ty_iconst hx hb (0) dX8_firstInLine_2 (by decide) (fun x1 h2 => ?_)
  refine lv_istore_n (lv' := [(2, .int x1), (1, .null), (0, .ref h0)]) hx hb dX8_firstInLine_3 rfl hl (by decide) rfl (fun ls hl => ?_)
  have L_4 : ∀ (n : Nat) (v2_4 : Int32) (v1_4 : Option Nat) (H : Heap) (locs : List Loc) (ls : Array Slot), (g 2 0 - v2_4.toInt : Int) < n → 0 ≤ v2_4.toInt ∧ v2_4.toInt ≤ g 2 0 → (∀ b, v1_4 = some b → (Γ b).1 = 3) → ty_ok (dC, dI) vwCl Γ (TP dA Γ g) sz X H → va_S (ty_A sz) s.heap H locs → lv_has ls 3 [(2, .int v2_4), (1, va_rf v1_4), (0, .ref h0)] → W p l e (headSpec (.code yX8_firstInLine cX8_firstInLine 3 (Option.some (Jvm.ClassFile.FieldType.object "WeekBank$Owner")) :: AL) ({ frames := 0, cells := 0, slots := 0, locals := 0 })).room s m ([.ref h0] : List Value).toArray below meth c H locs 0 0 (MQ below (va_Qq (fun (r : Option Nat) (u : gh) => (∀ b, r = some b → (Γ b).1 = 3) ∧ u = g) (okb dC dI dA sz X Γ) (ty_A sz)) ([.ref h0] : List Value).toArray s 0 0 (ty_A sz)) (F0 m 4 ls []) := by
    intro n
    induction n with
    | zero => intro v2_4 v1_4 H locs ls hm hi0 t_v1_4 hG hS hl; exfalso; omega
    | succ n ih_4 =>
      intro v2_4 v1_4 H locs ls hm hi0 t_v1_4 hG hS hl
      refine lv_iload_n hx hb dX8_firstInLine_4 rfl (lv_at hl 0 rfl) ?_
      refine lv_aload_n hx hb dX8_firstInLine_5 rfl (lv_at hl 2 rfl) ?_
      refine get_X8_3 hx hb hA hown hE hG t_h0 wd_1_160 dX8_firstInLine_6 (fun x4 h5 => ?_)
      refine ty_icmp_ge (tgt := 57) hx hb dX8_firstInLine_9 (by decide) (fun c7 => ?_) (fun c7 => ?_)
      · skip
        refine ty_aload_nq hx hb dX8_firstInLine_57 rfl (lv_at hl 1 rfl) ?_
        exact W.aret (v := va_rf (v1_4)) hx hb hr (Or.inl ⟨_, rfl⟩) (va_rf_or _) (fun t ht hW => ⟨⟨v1_4, g, rfl, ⟨t_v1_4, rfl⟩, ok1 ht hG⟩, hS.F ht⟩) hS.2.2 dX8_firstInLine_58
      · skip
        refine lv_aload_n hx hb dX8_firstInLine_12 rfl (lv_at hl 2 rfl) ?_
        refine get_X8_2 hx hb hA hown hE hG t_h0 wd_1_159 dX8_firstInLine_13 (fun b8 (t_b8 : ty Γ b8 11) => ?_)
        refine lv_iload_n hx hb dX8_firstInLine_16 rfl (lv_at hl 0 rfl) ?_
        refine ald_11 hx hb hE hG t_b8 (by omega) dX8_firstInLine_17 (fun j10 r9 h11 t_r9 h12 => ?_)
        obtain ⟨b13, rfl⟩ := Option.ne_none_iff_exists'.mp (h12 (by omega))
        have t_b13 : ty Γ b13 3 := t_r9 b13 rfl
        have hl : lv_has ls 3 [(2, .int v2_4), (1, va_rf v1_4), (0, .ref h0)] := hl
        refine get_X3_6 hx hb hA hown hE hG t_b13 wd_2_21 dX8_firstInLine_18 (fun x14 h15 => ?_)
        refine ty_if_eq (tgt := 51) hx hb dX8_firstInLine_21 (by decide) (fun c16 => ?_) (fun c16 => ?_)
        · skip
          obtain ⟨x17, h18⟩ : ∃ y : Int32, y = v2_4 + Int32.ofInt (1) := ⟨_, rfl⟩
          try have h19 : x17.toInt = v2_4.toInt + (1) := ty_inc h18 (by decide) (by omega) (by omega)
          refine lv_iinc (v := x17) (lv' := [(2, .int x17), (1, va_rf v1_4), (0, .ref h0)]) hx hb dX8_firstInLine_51 hl (k := 0) rfl h18.symm (by decide) (by cases v1_4 <;> rfl) (fun ls hl => ?_)
          refine lv_goto (tgt := 4) hx hb dX8_firstInLine_54 (by decide) ?_
          exact ih_4 x17 v1_4 _ _ ls (by omega) (by omega) t_v1_4 hG hS (lv_sub hl [0, 1, 2] rfl)
        · skip
          refine ty_aload_nq hx hb dX8_firstInLine_24 rfl (lv_at hl 1 rfl) ?_
          refine ty_ifnull (tgt := 44) hx hb dX8_firstInLine_25 (by decide) (fun h21 => ?_) (fun b20 h21 => ?_)
          · skip
            subst h21
            have hl : lv_has ls 3 [(2, .int v2_4), (1, .null), (0, .ref h0)] := hl
            refine lv_aload_n hx hb dX8_firstInLine_44 rfl (lv_at hl 2 rfl) ?_
            refine get_X8_2 hx hb hA hown hE hG t_h0 wd_1_159 dX8_firstInLine_45 (fun b22 (t_b22 : ty Γ b22 11) => ?_)
            refine lv_iload_n hx hb dX8_firstInLine_48 rfl (lv_at hl 0 rfl) ?_
            refine ald_11 hx hb hE hG t_b22 (by omega) dX8_firstInLine_49 (fun j24 r23 h25 t_r23 h26 => ?_)
            refine ty_astore_nq (lv' := [(1, va_rf r23), (2, .int v2_4), (0, .ref h0)]) hx hb dX8_firstInLine_50 rfl hl (by decide) rfl (fun ls hl => ?_)
            obtain ⟨x27, h28⟩ : ∃ y : Int32, y = v2_4 + Int32.ofInt (1) := ⟨_, rfl⟩
            try have h29 : x27.toInt = v2_4.toInt + (1) := ty_inc h28 (by decide) (by omega) (by omega)
            refine lv_iinc (v := x27) (lv' := [(2, .int x27), (1, va_rf r23), (0, .ref h0)]) hx hb dX8_firstInLine_51 hl (k := 1) rfl h28.symm (by decide) (by cases r23 <;> rfl) (fun ls hl => ?_)
            refine lv_goto (tgt := 4) hx hb dX8_firstInLine_54 (by decide) ?_
            exact ih_4 x27 r23 _ _ ls (by omega) (by omega) t_r23 hG hS (lv_sub hl [0, 1, 2] rfl)
          · skip
            subst h21
            have t_b20 : ty Γ b20 3 := t_v1_4 b20 rfl
            have hl : lv_has ls 3 [(2, .int v2_4), (1, .ref b20), (0, .ref h0)] := hl
            refine lv_aload_n hx hb dX8_firstInLine_28 rfl (lv_at hl 2 rfl) ?_
            refine get_X8_2 hx hb hA hown hE hG t_h0 wd_1_159 dX8_firstInLine_29 (fun b30 (t_b30 : ty Γ b30 11) => ?_)
            refine lv_iload_n hx hb dX8_firstInLine_32 rfl (lv_at hl 0 rfl) ?_
            refine ald_11 hx hb hE hG t_b30 (by omega) dX8_firstInLine_33 (fun j32 r31 h33 t_r31 h34 => ?_)
            obtain ⟨b35, rfl⟩ := Option.ne_none_iff_exists'.mp (h34 (by omega))
            have t_b35 : ty Γ b35 3 := t_r31 b35 rfl
            have hl : lv_has ls 3 [(2, .int v2_4), (1, .ref b20), (0, .ref h0)] := hl
            refine get_X3_3 hx hb hA hown hE hG t_b35 wd_2_14 dX8_firstInLine_34 (fun x36 => ?_)
            refine lv_aload_n hx hb dX8_firstInLine_37 rfl (lv_at hl 1 rfl) ?_
            refine get_X3_3 hx hb hA hown hE hG t_b20 wd_2_14 dX8_firstInLine_38 (fun x37 => ?_)
            refine ty_icmp_ge (tgt := 51) hx hb dX8_firstInLine_41 (by decide) (fun c38 => ?_) (fun c38 => ?_)
            · skip
              obtain ⟨x39, h40⟩ : ∃ y : Int32, y = v2_4 + Int32.ofInt (1) := ⟨_, rfl⟩
              try have h41 : x39.toInt = v2_4.toInt + (1) := ty_inc h40 (by decide) (by omega) (by omega)
              refine lv_iinc (v := x39) (lv' := [(2, .int x39), (1, .ref b20), (0, .ref h0)]) hx hb dX8_firstInLine_51 hl (k := 0) rfl h40.symm (by decide) rfl (fun ls hl => ?_)
              refine lv_goto (tgt := 4) hx hb dX8_firstInLine_54 (by decide) ?_
              exact ih_4 x39 (some b20) _ _ ls (by omega) (by omega) (fun _ h => by cases h; exact t_b20) hG hS (lv_sub hl [0, 1, 2] rfl)
            · skip
              refine lv_aload_n hx hb dX8_firstInLine_44 rfl (lv_at hl 2 rfl) ?_
              refine get_X8_2 hx hb hA hown hE hG t_h0 wd_1_159 dX8_firstInLine_45 (fun b42 (t_b42 : ty Γ b42 11) => ?_)
              refine lv_iload_n hx hb dX8_firstInLine_48 rfl (lv_at hl 0 rfl) ?_
              refine ald_11 hx hb hE hG t_b42 (by omega) dX8_firstInLine_49 (fun j44 r43 h45 t_r43 h46 => ?_)
              refine ty_astore_nq (lv' := [(1, va_rf r43), (2, .int v2_4), (0, .ref h0)]) hx hb dX8_firstInLine_50 rfl hl (by decide) rfl (fun ls hl => ?_)
              obtain ⟨x47, h48⟩ : ∃ y : Int32, y = v2_4 + Int32.ofInt (1) := ⟨_, rfl⟩
              try have h49 : x47.toInt = v2_4.toInt + (1) := ty_inc h48 (by decide) (by omega) (by omega)
              refine lv_iinc (v := x47) (lv' := [(2, .int x47), (1, va_rf r43), (0, .ref h0)]) hx hb dX8_firstInLine_51 hl (k := 1) rfl h48.symm (by decide) (by cases r43 <;> rfl) (fun ls hl => ?_)
              refine lv_goto (tgt := 4) hx hb dX8_firstInLine_54 (by decide) ?_
              exact ih_4 x47 r43 _ _ ls (by omega) (by omega) t_r43 hG hS (lv_sub hl [0, 1, 2] rfl)
  exact L_4 ((g 2 0 - x1.toInt) + 1).toNat x1 none _ _ ls (by omega) (by omega) (fun _ h => by cases h) hG hS (lv_sub hl [0, 1, 2] rfl)

set_option maxHeartbeats 4000000 in
set_option maxRecDepth 100000 in
/-- WeekBank.bestBankedFor:  -/
theorem k_X8_bestBankedFor (l : Launch) (dC : Nat → ClassId) (dI : Nat → Nat → Nat) (dA : Nat → ClassId) (sz : Nat) (X : va_W) (Γ : ty_G) (hU : Un Γ) (g : gh) (h0 : Nat) (t_h0 : ty Γ h0 1) (p1 : Nat) (t_p1 : ty Γ p1 3) (g3 : g 3 0 = g 35 0 ∧ 0 ≤ g 3 0 ∧ g 3 0 ≤ 200) : Met l yX8_bestBankedFor (.code yX8_bestBankedFor cX8_bestBankedFor 6 (Option.some (Jvm.ClassFile.FieldType.object "WeekBank$Gift")) :: AL) ({ frames := 1, cells := 0, slots := 0, locals := 22 }) (PCx dC dI dA sz X Γ g [.ref h0, .ref p1]) (va_Qq (fun (r : Option Nat) (u : gh) => (∀ b, r = some b → (Γ b).1 = 4) ∧ u = g) (okb dC dI dA sz X Γ) (ty_A sz)) 0 0 (ty_A sz) := by
  refine Met.ofW (cc := cX8_bestBankedFor) (maxL := 6) (ret := (Option.some (Jvm.ClassFile.FieldType.object "WeekBank$Gift"))) (by decide) rfl ?_
  intro p e s m args below meth c s₁ B hml hv
  obtain ⟨rfl, hG, hE⟩ := hv
  have hx := B.exec
  have hb := B.bytes
  have hr := B.returns
  have hts := atoms_spec B.pre
  have hA : ∀ w ∈ AL, w.before _ s = true := fun w h => hts w (List.mem_cons_of_mem _ h)
  have hown : s.vm.findClass RX8 = some m.cls := findClass_of_methodNamed B.named
  have hlocks := B.notSynchronized
  have hS : va_S (ty_A sz) s.heap s.heap [] := va_S.rf
  have hl := lv_entry ([.ref h0, .ref p1]) (n := 6) (Nat.le_of_ble_eq_true rfl)
  rw [lg_entry_eq]
  generalize (lg_sl ([.ref h0, .ref p1]) ++ List.replicate (6 - (lg_sl ([.ref h0, .ref p1])).length) Slot.unset).toArray = ls at hl ⊢
  have hl : lv_has ls 6 [(0, .ref h0), (1, .ref p1)] := hl
  refine lv_null hx hb dX8_bestBankedFor_0 ?_
  refine lv_astore_nN (lv' := [(2, .null), (0, .ref h0), (1, .ref p1)]) hx hb dX8_bestBankedFor_1 rfl hl (by decide) rfl (fun ls hl => ?_)
  refine ty_iconst hx hb (0) dX8_bestBankedFor_2 (by decide) (fun x1 h2 => ?_)
  refine lv_istore_n (lv' := [(3, .int x1), (2, .null), (0, .ref h0), (1, .ref p1)]) hx hb dX8_bestBankedFor_3 rfl hl (by decide) rfl (fun ls hl => ?_)
  have L_4 : ∀ (n : Nat) (v3_4 : Int32) (v2_4 : Option Nat) (H : Heap) (locs : List Loc) (ls : Array Slot), (g 3 0 - v3_4.toInt : Int) < n → 0 ≤ v3_4.toInt ∧ v3_4.toInt ≤ g 3 0 → (∀ b, v2_4 = some b → (Γ b).1 = 4) → ty_ok (dC, dI) vwCl Γ (TP dA Γ g) sz X H → va_S (ty_A sz) s.heap H locs → lv_has ls 6 [(3, .int v3_4), (2, va_rf v2_4), (0, .ref h0), (1, .ref p1)] → W p l e (headSpec (.code yX8_bestBankedFor cX8_bestBankedFor 6 (Option.some (Jvm.ClassFile.FieldType.object "WeekBank$Gift")) :: AL) ({ frames := 1, cells := 0, slots := 0, locals := 22 })).room s m ([.ref h0, .ref p1] : List Value).toArray below meth c H locs 0 0 (MQ below (va_Qq (fun (r : Option Nat) (u : gh) => (∀ b, r = some b → (Γ b).1 = 4) ∧ u = g) (okb dC dI dA sz X Γ) (ty_A sz)) ([.ref h0, .ref p1] : List Value).toArray s 0 0 (ty_A sz)) (F0 m 4 ls []) := by
    intro n
    induction n with
    | zero => intro v3_4 v2_4 H locs ls hm hi0 t_v2_4 hG hS hl; exfalso; omega
    | succ n ih_4 =>
      intro v3_4 v2_4 H locs ls hm hi0 t_v2_4 hG hS hl
      refine lv_iload_n hx hb dX8_bestBankedFor_4 rfl (lv_at hl 0 rfl) ?_
      refine lv_aload_n hx hb dX8_bestBankedFor_5 rfl (lv_at hl 2 rfl) ?_
      refine get_X8_5 hx hb hA hown hE hG t_h0 wd_1_162 dX8_bestBankedFor_6 (fun x4 h5 => ?_)
      refine ty_icmp_ge (tgt := 90) hx hb dX8_bestBankedFor_9 (by decide) (fun c7 => ?_) (fun c7 => ?_)
      · skip
        refine ty_aload_nq hx hb dX8_bestBankedFor_90 rfl (lv_at hl 1 rfl) ?_
        exact W.aret (v := va_rf (v2_4)) hx hb hr (Or.inl ⟨_, rfl⟩) (va_rf_or _) (fun t ht hW => ⟨⟨v2_4, g, rfl, ⟨t_v2_4, rfl⟩, ok1 ht hG⟩, hS.F ht⟩) hS.2.2 dX8_bestBankedFor_91
      · skip
        refine lv_aload_n hx hb dX8_bestBankedFor_12 rfl (lv_at hl 2 rfl) ?_
        refine get_X8_4 hx hb hA hown hE hG t_h0 wd_1_161 dX8_bestBankedFor_13 (fun b8 (t_b8 : ty Γ b8 12) => ?_)
        refine lv_iload_n hx hb dX8_bestBankedFor_16 rfl (lv_at hl 0 rfl) ?_
        refine ald_12 hx hb hE hG t_b8 (by omega) dX8_bestBankedFor_17 (fun j10 r9 h11 t_r9 h12 => ?_)
        refine ty_astoreq (lv' := [(4, va_rf r9), (3, .int v3_4), (2, va_rf v2_4), (0, .ref h0), (1, .ref p1)]) hx hb dX8_bestBankedFor_18 hl (by decide) rfl (fun ls hl => ?_)
        refine ty_aloadq hx hb dX8_bestBankedFor_20 (lv_at hl 0 rfl) ?_
        obtain ⟨b13, rfl⟩ := Option.ne_none_iff_exists'.mp (h12 (by omega))
        have t_b13 : ty Γ b13 4 := t_r9 b13 rfl
        have hl : lv_has ls 6 [(4, .ref b13), (3, .int v3_4), (2, va_rf v2_4), (0, .ref h0), (1, .ref p1)] := hl
        refine get_X2_6 hx hb hA hown hE hG t_b13 wd_3_34 dX8_bestBankedFor_22 (fun x14 => ?_)
        refine ty_iconst hx hb (2) dX8_bestBankedFor_25 (by decide) (fun x15 h16 => ?_)
        refine ty_icmp_ne (tgt := 45) hx hb dX8_bestBankedFor_26 (by decide) (fun c17 => ?_) (fun c17 => ?_)
        · skip
          refine ty_iconst hx hb (0) dX8_bestBankedFor_45 (by decide) (fun x18 h19 => ?_)
          refine lv_istore (lv' := [(5, .int x18), (4, .ref b13), (3, .int v3_4), (2, va_rf v2_4), (0, .ref h0), (1, .ref p1)]) hx hb dX8_bestBankedFor_46 hl (by decide) rfl (fun ls hl => ?_)
          refine lv_iload hx hb dX8_bestBankedFor_48 (lv_at hl 0 rfl) ?_
          refine ty_if_eq (tgt := 84) hx hb dX8_bestBankedFor_50 (by decide) (fun c20 => ?_) (fun c20 => ?_)
          · skip
            obtain ⟨x21, h22⟩ : ∃ y : Int32, y = v3_4 + Int32.ofInt (1) := ⟨_, rfl⟩
            try have h23 : x21.toInt = v3_4.toInt + (1) := ty_inc h22 (by decide) (by omega) (by omega)
            refine lv_iinc (v := x21) (lv' := [(3, .int x21), (5, .int x18), (4, .ref b13), (2, va_rf v2_4), (0, .ref h0), (1, .ref p1)]) hx hb dX8_bestBankedFor_84 hl (k := 2) rfl h22.symm (by decide) (by cases v2_4 <;> rfl) (fun ls hl => ?_)
            refine lv_goto (tgt := 4) hx hb dX8_bestBankedFor_87 (by decide) ?_
            exact ih_4 x21 v2_4 _ _ ls (by omega) (by omega) t_v2_4 hG hS (lv_sub hl [0, 3, 4, 5] rfl)
          · exfalso; omega
        · skip
          refine lv_aload hx hb dX8_bestBankedFor_29 (lv_at hl 0 rfl) ?_
          refine get_X2_5 hx hb hA hown hE hG t_b13 wd_3_30 dX8_bestBankedFor_31 (fun x24 => ?_)
          refine lv_aload_n hx hb dX8_bestBankedFor_34 rfl (lv_at hl 4 rfl) ?_
          refine get_X3_2 hx hb hA hown hE hG t_p1 wd_2_12 dX8_bestBankedFor_35 (fun x25 => ?_)
          refine ty_icmp_gt (tgt := 45) hx hb dX8_bestBankedFor_38 (by decide) (fun c26 => ?_) (fun c26 => ?_)
          · skip
            refine ty_iconst hx hb (0) dX8_bestBankedFor_45 (by decide) (fun x27 h28 => ?_)
            refine lv_istore (lv' := [(5, .int x27), (4, .ref b13), (3, .int v3_4), (2, va_rf v2_4), (0, .ref h0), (1, .ref p1)]) hx hb dX8_bestBankedFor_46 hl (by decide) rfl (fun ls hl => ?_)
            refine lv_iload hx hb dX8_bestBankedFor_48 (lv_at hl 0 rfl) ?_
            refine ty_if_eq (tgt := 84) hx hb dX8_bestBankedFor_50 (by decide) (fun c29 => ?_) (fun c29 => ?_)
            · skip
              obtain ⟨x30, h31⟩ : ∃ y : Int32, y = v3_4 + Int32.ofInt (1) := ⟨_, rfl⟩
              try have h32 : x30.toInt = v3_4.toInt + (1) := ty_inc h31 (by decide) (by omega) (by omega)
              refine lv_iinc (v := x30) (lv' := [(3, .int x30), (5, .int x27), (4, .ref b13), (2, va_rf v2_4), (0, .ref h0), (1, .ref p1)]) hx hb dX8_bestBankedFor_84 hl (k := 2) rfl h31.symm (by decide) (by cases v2_4 <;> rfl) (fun ls hl => ?_)
              refine lv_goto (tgt := 4) hx hb dX8_bestBankedFor_87 (by decide) ?_
              exact ih_4 x30 v2_4 _ _ ls (by omega) (by omega) t_v2_4 hG hS (lv_sub hl [0, 3, 4, 5] rfl)
            · exfalso; omega
          · skip
            refine ty_iconst hx hb (1) dX8_bestBankedFor_41 (by decide) (fun x33 h34 => ?_)
            refine lv_goto (tgt := 46) hx hb dX8_bestBankedFor_42 (by decide) ?_
            refine lv_istore (lv' := [(5, .int x33), (4, .ref b13), (3, .int v3_4), (2, va_rf v2_4), (0, .ref h0), (1, .ref p1)]) hx hb dX8_bestBankedFor_46 hl (by decide) rfl (fun ls hl => ?_)
            refine lv_iload hx hb dX8_bestBankedFor_48 (lv_at hl 0 rfl) ?_
            refine ty_if_eq (tgt := 84) hx hb dX8_bestBankedFor_50 (by decide) (fun c35 => ?_) (fun c35 => ?_)
            · exfalso; omega
            · skip
              refine lv_aload hx hb dX8_bestBankedFor_53 (lv_at hl 1 rfl) ?_
              refine lv_aload_n hx hb dX8_bestBankedFor_55 rfl (lv_at hl 5 rfl) ?_
              obtain ⟨fs36, fs36a, fs36l, fs36F⟩ := pin_X3 hG t_p1
              obtain ⟨r37, e_r37, t_r37⟩ : vN Γ 5 (vp_V fs36 7) := fs36F 7 (by decide)
              refine gep_X3 hx hb hA hE fs36a hown 7 (by decide) wd_2_23 rfl (va_rf r37) (vp_at fs36l (by decide) e_r37) dX8_bestBankedFor_56 ?_
              refine cI (va_runV (C := RX2) (As := [va_rf r37]) (rest := []) ⟨hx, hb, hml, hown, hA⟩ (k_X2_meets l dC dI dA sz X Γ hU g b13 t_b13 r37 t_r37   ) ⟨callB_of 1 hA (al_A wd_3_130) rfl rfl rfl (hA _ wd_1_15) (hA _ wd_3_207) (by decide +kernel) ⟨Nat.le_of_ble_eq_true rfl, Nat.le_of_ble_eq_true rfl⟩, hA _ wd_3_128, hA _ wd_3_129⟩ ⟨bl, recv_X2 hE hG t_b13, fun U hU9 hW9 => ⟨rfl, by rw [hU9]; exact hG, hE.go hS hU9 hW9⟩⟩ rfl rfl hl.1 rfl (lv_room (Nat.le_of_ble_eq_true rfl)) dX8_bestBankedFor_59 ⟨Nat.zero_le _, Nat.zero_le _⟩) hS (fun x40 u38 H locs w39 hG hS => ?_)
              obtain ⟨eu41, w39⟩ := w39
              rw [eu41] at hG
              refine ty_if_eq (tgt := 84) hx hb dX8_bestBankedFor_62 (by decide) (fun c42 => ?_) (fun c42 => ?_)
              · skip
                obtain ⟨x43, h44⟩ : ∃ y : Int32, y = v3_4 + Int32.ofInt (1) := ⟨_, rfl⟩
                try have h45 : x43.toInt = v3_4.toInt + (1) := ty_inc h44 (by decide) (by omega) (by omega)
                refine lv_iinc (v := x43) (lv' := [(3, .int x43), (5, .int x33), (4, .ref b13), (2, va_rf v2_4), (0, .ref h0), (1, .ref p1)]) hx hb dX8_bestBankedFor_84 hl (k := 2) rfl h44.symm (by decide) (by cases v2_4 <;> rfl) (fun ls hl => ?_)
                refine lv_goto (tgt := 4) hx hb dX8_bestBankedFor_87 (by decide) ?_
                exact ih_4 x43 v2_4 _ _ ls (by omega) (by omega) t_v2_4 hG hS (lv_sub hl [0, 3, 4, 5] rfl)
              · skip
                refine ty_aload_nq hx hb dX8_bestBankedFor_65 rfl (lv_at hl 3 rfl) ?_
                refine ty_ifnull (tgt := 81) hx hb dX8_bestBankedFor_66 (by decide) (fun h47 => ?_) (fun b46 h47 => ?_)
                · skip
                  subst h47
                  have hl : lv_has ls 6 [(5, .int x33), (4, .ref b13), (3, .int v3_4), (2, .null), (0, .ref h0), (1, .ref p1)] := hl
                  refine lv_aload hx hb dX8_bestBankedFor_81 (lv_at hl 1 rfl) ?_
                  refine lv_astore_n (lv' := [(2, .ref b13), (5, .int x33), (4, .ref b13), (3, .int v3_4), (0, .ref h0), (1, .ref p1)]) hx hb dX8_bestBankedFor_83 rfl hl (by decide) rfl (fun ls hl => ?_)
                  obtain ⟨x48, h49⟩ : ∃ y : Int32, y = v3_4 + Int32.ofInt (1) := ⟨_, rfl⟩
                  try have h50 : x48.toInt = v3_4.toInt + (1) := ty_inc h49 (by decide) (by omega) (by omega)
                  refine lv_iinc (v := x48) (lv' := [(3, .int x48), (2, .ref b13), (5, .int x33), (4, .ref b13), (0, .ref h0), (1, .ref p1)]) hx hb dX8_bestBankedFor_84 hl (k := 3) rfl h49.symm (by decide) rfl (fun ls hl => ?_)
                  refine lv_goto (tgt := 4) hx hb dX8_bestBankedFor_87 (by decide) ?_
                  exact ih_4 x48 (some b13) _ _ ls (by omega) (by omega) (fun _ h => by cases h; exact t_b13) hG hS (lv_sub hl [0, 1, 4, 5] rfl)
                · skip
                  subst h47
                  have t_b46 : ty Γ b46 4 := t_v2_4 b46 rfl
                  have hl : lv_has ls 6 [(5, .int x33), (4, .ref b13), (3, .int v3_4), (2, .ref b46), (0, .ref h0), (1, .ref p1)] := hl
                  refine lv_aload hx hb dX8_bestBankedFor_69 (lv_at hl 1 rfl) ?_
                  refine get_X2_5 hx hb hA hown hE hG t_b13 wd_3_30 dX8_bestBankedFor_71 (fun x51 => ?_)
                  refine lv_aload_n hx hb dX8_bestBankedFor_74 rfl (lv_at hl 3 rfl) ?_
                  refine get_X2_5 hx hb hA hown hE hG t_b46 wd_3_30 dX8_bestBankedFor_75 (fun x52 => ?_)
                  refine ty_icmp_le (tgt := 84) hx hb dX8_bestBankedFor_78 (by decide) (fun c53 => ?_) (fun c53 => ?_)
                  · skip
                    obtain ⟨x54, h55⟩ : ∃ y : Int32, y = v3_4 + Int32.ofInt (1) := ⟨_, rfl⟩
                    try have h56 : x54.toInt = v3_4.toInt + (1) := ty_inc h55 (by decide) (by omega) (by omega)
                    refine lv_iinc (v := x54) (lv' := [(3, .int x54), (5, .int x33), (4, .ref b13), (2, .ref b46), (0, .ref h0), (1, .ref p1)]) hx hb dX8_bestBankedFor_84 hl (k := 2) rfl h55.symm (by decide) rfl (fun ls hl => ?_)
                    refine lv_goto (tgt := 4) hx hb dX8_bestBankedFor_87 (by decide) ?_
                    exact ih_4 x54 (some b46) _ _ ls (by omega) (by omega) (fun _ h => by cases h; exact t_b46) hG hS (lv_sub hl [0, 3, 4, 5] rfl)
                  · skip
                    refine lv_aload hx hb dX8_bestBankedFor_81 (lv_at hl 1 rfl) ?_
                    refine lv_astore_n (lv' := [(2, .ref b13), (5, .int x33), (4, .ref b13), (3, .int v3_4), (0, .ref h0), (1, .ref p1)]) hx hb dX8_bestBankedFor_83 rfl hl (by decide) rfl (fun ls hl => ?_)
                    obtain ⟨x57, h58⟩ : ∃ y : Int32, y = v3_4 + Int32.ofInt (1) := ⟨_, rfl⟩
                    try have h59 : x57.toInt = v3_4.toInt + (1) := ty_inc h58 (by decide) (by omega) (by omega)
                    refine lv_iinc (v := x57) (lv' := [(3, .int x57), (2, .ref b13), (5, .int x33), (4, .ref b13), (0, .ref h0), (1, .ref p1)]) hx hb dX8_bestBankedFor_84 hl (k := 3) rfl h58.symm (by decide) rfl (fun ls hl => ?_)
                    refine lv_goto (tgt := 4) hx hb dX8_bestBankedFor_87 (by decide) ?_
                    exact ih_4 x57 (some b13) _ _ ls (by omega) (by omega) (fun _ h => by cases h; exact t_b13) hG hS (lv_sub hl [0, 1, 4, 5] rfl)
  exact L_4 ((g 3 0 - x1.toInt) + 1).toNat x1 none _ _ ls (by omega) (by omega) (fun _ h => by cases h) hG hS (lv_sub hl [0, 1, 2, 3] rfl)

set_option maxHeartbeats 4000000 in
set_option maxRecDepth 100000 in
/-- WeekBank.passAllWeeks:  -/
theorem k_X8_passAllWeeks (l : Launch) (dC : Nat → ClassId) (dI : Nat → Nat → Nat) (dA : Nat → ClassId) (sz : Nat) (X : va_W) (Γ : ty_G) (hU : Un Γ) (g : gh) (h0 : Nat) (t_h0 : ty Γ h0 1) (p1 : Nat) (t_p1 : ty Γ p1 3) (q2 : Option Nat) (t_q2 : ∀ b, q2 = some b → (Γ b).1 = 3) (g1 : g 1 0 = g 33 0 ∧ 0 ≤ g 1 0 ∧ g 1 0 ≤ 6) : Met l yX8_passAllWeeks (.code yX8_passAllWeeks cX8_passAllWeeks 5 (Option.none : Option Jvm.ClassFile.FieldType) :: AL) ({ frames := 2, cells := 0, slots := 0, locals := 43 }) (PCx dC dI dA sz X Γ g [.ref h0, .ref p1, va_rf q2]) (va_Qv (fun (u : gh) => u = g) (okb dC dI dA sz X Γ) (ty_A sz)) 0 0 (ty_A sz) := by
  refine Met.ofW (cc := cX8_passAllWeeks) (maxL := 5) (ret := (Option.none : Option Jvm.ClassFile.FieldType)) (by decide) rfl ?_
  intro p e s m args below meth c s₁ B hml hv
  obtain ⟨rfl, hG, hE⟩ := hv
  have hx := B.exec
  have hb := B.bytes
  have hr := B.returns
  have hts := atoms_spec B.pre
  have hA : ∀ w ∈ AL, w.before _ s = true := fun w h => hts w (List.mem_cons_of_mem _ h)
  have hown : s.vm.findClass RX8 = some m.cls := findClass_of_methodNamed B.named
  have hlocks := B.notSynchronized
  have hS : va_S (ty_A sz) s.heap s.heap [] := va_S.rf
  have hl := lv_entry ([.ref h0, .ref p1, va_rf q2]) (n := 5) (by cases q2 <;> exact Nat.le_of_ble_eq_true rfl)
  rw [lg_entry_eq]
  generalize (lg_sl ([.ref h0, .ref p1, va_rf q2]) ++ List.replicate (5 - (lg_sl ([.ref h0, .ref p1, va_rf q2])).length) Slot.unset).toArray = ls at hl ⊢
  have hl : lv_has ls 5 [(0, .ref h0), (1, .ref p1), (2, va_rf q2)] := by cases q2 <;> exact hl
  refine ty_iconst hx hb (0) dX8_passAllWeeks_0 (by decide) (fun x1 h2 => ?_)
  refine lv_istore_n (lv' := [(3, .int x1), (0, .ref h0), (1, .ref p1), (2, va_rf q2)]) hx hb dX8_passAllWeeks_1 rfl hl (by decide) (by cases q2 <;> rfl) (fun ls hl => ?_)
  have L_2 : ∀ (n : Nat) (v3_2 : Int32) (H : Heap) (locs : List Loc) (ls : Array Slot), (g 1 0 - v3_2.toInt : Int) < n → 0 ≤ v3_2.toInt ∧ v3_2.toInt ≤ g 1 0 → ty_ok (dC, dI) vwCl Γ (TP dA Γ g) sz X H → va_S (ty_A sz) s.heap H locs → lv_has ls 5 [(3, .int v3_2), (0, .ref h0), (1, .ref p1), (2, va_rf q2)] → W p l e (headSpec (.code yX8_passAllWeeks cX8_passAllWeeks 5 (Option.none : Option Jvm.ClassFile.FieldType) :: AL) ({ frames := 2, cells := 0, slots := 0, locals := 43 })).room s m ([.ref h0, .ref p1, va_rf q2] : List Value).toArray below meth c H locs 0 0 (MQ below (va_Qv (fun (u : gh) => u = g) (okb dC dI dA sz X Γ) (ty_A sz)) ([.ref h0, .ref p1, va_rf q2] : List Value).toArray s 0 0 (ty_A sz)) (F0 m 2 ls []) := by
    intro n
    induction n with
    | zero => intro v3_2 H locs ls hm hi0 hG hS hl; exfalso; omega
    | succ n ih_2 =>
      intro v3_2 H locs ls hm hi0 hG hS hl
      refine lv_iload_n hx hb dX8_passAllWeeks_2 rfl (lv_at hl 0 rfl) ?_
      refine lv_aload_n hx hb dX8_passAllWeeks_3 rfl (lv_at hl 1 rfl) ?_
      refine get_X8_1 hx hb hA hown hE hG t_h0 wd_1_158 dX8_passAllWeeks_4 (fun x4 h5 => ?_)
      refine ty_icmp_ge (tgt := 60) hx hb dX8_passAllWeeks_7 (by decide) (fun c7 => ?_) (fun c7 => ?_)
      · skip
        exact W.vret hx hb hr (fun t ht hW => ⟨⟨g, rfl, rfl, ok1 ht hG⟩, hS.F ht⟩) hS.2.2 dX8_passAllWeeks_60
      · skip
        refine ty_iconst hx hb (0) dX8_passAllWeeks_10 (by decide) (fun x8 h9 => ?_)
        refine lv_istore (lv' := [(4, .int x8), (3, .int v3_2), (0, .ref h0), (1, .ref p1), (2, va_rf q2)]) hx hb dX8_passAllWeeks_11 hl (by decide) rfl (fun ls hl => ?_)
        have L_13 : ∀ (n : Nat) (v4_13 : Int32) (H : Heap) (locs : List Loc) (ls : Array Slot), (53 - v4_13.toInt : Int) < n → 0 ≤ v4_13.toInt ∧ v4_13.toInt ≤ 53 → ty_ok (dC, dI) vwCl Γ (TP dA Γ g) sz X H → va_S (ty_A sz) s.heap H locs → lv_has ls 5 [(4, .int v4_13), (3, .int v3_2), (0, .ref h0), (1, .ref p1), (2, va_rf q2)] → W p l e (headSpec (.code yX8_passAllWeeks cX8_passAllWeeks 5 (Option.none : Option Jvm.ClassFile.FieldType) :: AL) ({ frames := 2, cells := 0, slots := 0, locals := 43 })).room s m ([.ref h0, .ref p1, va_rf q2] : List Value).toArray below meth c H locs 0 0 (MQ below (va_Qv (fun (u : gh) => u = g) (okb dC dI dA sz X Γ) (ty_A sz)) ([.ref h0, .ref p1, va_rf q2] : List Value).toArray s 0 0 (ty_A sz)) (F0 m 13 ls []) := by
          intro n
          induction n with
          | zero => intro v4_13 H locs ls hm hi0 hG hS hl; exfalso; omega
          | succ n ih_13 =>
            intro v4_13 H locs ls hm hi0 hG hS hl
            refine lv_iload hx hb dX8_passAllWeeks_13 (lv_at hl 0 rfl) ?_
            refine ty_bipush hx hb (53) dX8_passAllWeeks_15 (by decide) (fun x11 h12 => ?_)
            refine ty_icmp_ge (tgt := 54) hx hb dX8_passAllWeeks_17 (by decide) (fun c13 => ?_) (fun c13 => ?_)
            · skip
              obtain ⟨x14, h15⟩ : ∃ y : Int32, y = v3_2 + Int32.ofInt (1) := ⟨_, rfl⟩
              try have h16 : x14.toInt = v3_2.toInt + (1) := ty_inc h15 (by decide) (by omega) (by omega)
              refine lv_iinc (v := x14) (lv' := [(3, .int x14), (4, .int v4_13), (0, .ref h0), (1, .ref p1), (2, va_rf q2)]) hx hb dX8_passAllWeeks_54 hl (k := 1) rfl h15.symm (by decide) (by cases q2 <;> rfl) (fun ls hl => ?_)
              refine lv_goto (tgt := 2) hx hb dX8_passAllWeeks_57 (by decide) ?_
              exact ih_2 x14 _ _ ls (by omega) (by omega) hG hS (lv_sub hl [0, 2, 3, 4] rfl)
            · skip
              refine lv_aload_n hx hb dX8_passAllWeeks_20 rfl (lv_at hl 2 rfl) ?_
              refine get_X8_0 hx hb hA hown hE hG t_h0 wd_1_157 dX8_passAllWeeks_21 (fun b17 (t_b17 : ty Γ b17 10) => ?_)
              refine lv_iload_n hx hb dX8_passAllWeeks_24 rfl (lv_at hl 1 rfl) ?_
              refine ald_10 hx hb hE hG t_b17 (by omega) dX8_passAllWeeks_25 (fun j19 r18 h20 t_r18 h21 => ?_)
              obtain ⟨b22, rfl⟩ := Option.ne_none_iff_exists'.mp (h21 (by omega))
              have t_b22 : ty Γ b22 2 := t_r18 b22 rfl
              have hl : lv_has ls 5 [(4, .int v4_13), (3, .int v3_2), (0, .ref h0), (1, .ref p1), (2, va_rf q2)] := hl
              refine get_X1_3 hx hb hA hown hE hG t_b22 wd_1_219 dX8_passAllWeeks_26 (fun b23 (t_b23 : ty Γ b23 13) => ?_)
              refine lv_iload hx hb dX8_passAllWeeks_29 (lv_at hl 0 rfl) ?_
              refine ald_13 hx hb hE hG t_b23 (by omega) dX8_passAllWeeks_31 (fun j25 r24 h26 t_r24 => ?_)
              refine lv_aload_n hx hb dX8_passAllWeeks_32 rfl (lv_at hl 3 rfl) ?_
              refine lv_acmp_ne (rx := r24) (ry := some p1) (tgt := 48) hx hb dX8_passAllWeeks_33 (by decide) (fun h28 => ?_) (fun h28 => ?_)
              · skip
                obtain ⟨x29, h30⟩ : ∃ y : Int32, y = v4_13 + Int32.ofInt (1) := ⟨_, rfl⟩
                try have h31 : x29.toInt = v4_13.toInt + (1) := ty_inc h30 (by decide) (by omega) (by omega)
                refine lv_iinc (v := x29) (lv' := [(4, .int x29), (3, .int v3_2), (0, .ref h0), (1, .ref p1), (2, va_rf q2)]) hx hb dX8_passAllWeeks_48 hl (k := 0) rfl h30.symm (by decide) rfl (fun ls hl => ?_)
                refine lv_goto (tgt := 13) hx hb dX8_passAllWeeks_51 (by decide) ?_
                exact ih_13 x29 _ _ ls (by omega) (by omega) hG hS (lv_sub hl [0, 1, 2, 3, 4] rfl)
              · skip
                refine lv_aload_n hx hb dX8_passAllWeeks_36 rfl (lv_at hl 2 rfl) ?_
                refine get_X8_0 hx hb hA hown hE hG t_h0 wd_1_157 dX8_passAllWeeks_37 (fun b32 (t_b32 : ty Γ b32 10) => ?_)
                refine lv_iload_n hx hb dX8_passAllWeeks_40 rfl (lv_at hl 1 rfl) ?_
                refine ald_10 hx hb hE hG t_b32 (by omega) dX8_passAllWeeks_41 (fun j34 r33 h35 t_r33 h36 => ?_)
                refine lv_iload hx hb dX8_passAllWeeks_42 (lv_at hl 0 rfl) ?_
                refine ty_aload_nq hx hb dX8_passAllWeeks_44 rfl (lv_at hl 4 rfl) ?_
                obtain ⟨b37, rfl⟩ := Option.ne_none_iff_exists'.mp (h36 (by omega))
                have t_b37 : ty Γ b37 2 := t_r33 b37 rfl
                have hl : lv_has ls 5 [(4, .int v4_13), (3, .int v3_2), (0, .ref h0), (1, .ref p1), (2, va_rf q2)] := hl
                refine cV (va_runV (C := RX1) (As := [.int v4_13, va_rf q2]) (rest := []) ⟨hx, hb, hml, hown, hA⟩ (k_X1_passTo l dC dI dA sz X Γ hU g b37 t_b37 v4_13 q2 t_q2   ) ⟨callB_of 2 hA (al_A wd_2_71) rfl rfl rfl (hA _ wd_1_8) (hA _ wd_2_68) (by decide +kernel) ⟨Nat.le_of_ble_eq_true rfl, Nat.le_of_ble_eq_true rfl⟩, hA _ wd_2_69, hA _ wd_2_70⟩ ⟨bl, recv_X1 hE hG t_b37, fun U hU9 hW9 => ⟨rfl, by rw [hU9]; exact hG, hE.go hS hU9 hW9⟩⟩ rfl rfl hl.1 rfl (lv_room (Nat.le_of_ble_eq_true rfl)) dX8_passAllWeeks_45 ⟨Nat.zero_le _, Nat.zero_le _⟩) hS (fun u38 H locs w39 hG hS => ?_)
                have eu40 := w39
                rw [eu40] at hG
                obtain ⟨x41, h42⟩ : ∃ y : Int32, y = v4_13 + Int32.ofInt (1) := ⟨_, rfl⟩
                try have h43 : x41.toInt = v4_13.toInt + (1) := ty_inc h42 (by decide) (by omega) (by omega)
                refine lv_iinc (v := x41) (lv' := [(4, .int x41), (3, .int v3_2), (0, .ref h0), (1, .ref p1), (2, va_rf q2)]) hx hb dX8_passAllWeeks_48 hl (k := 0) rfl h42.symm (by decide) rfl (fun ls hl => ?_)
                refine lv_goto (tgt := 13) hx hb dX8_passAllWeeks_51 (by decide) ?_
                exact ih_13 x41 _ _ ls (by omega) (by omega) hG hS (lv_sub hl [0, 1, 2, 3, 4] rfl)
        exact L_13 ((53 - x8.toInt) + 1).toNat x8 _ _ ls (by omega) (by omega) hG hS (lv_sub hl [0, 1, 2, 3, 4] rfl)
  exact L_2 ((g 1 0 - x1.toInt) + 1).toNat x1 _ _ ls (by omega) (by omega) hG hS (lv_sub hl [0, 1, 2, 3] rfl)
