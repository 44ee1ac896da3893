set_option maxHeartbeats 4000000 in
set_option maxRecDepth 100000 in
/-- WeekBank$Gift.isGot:  -/
theorem k_X2_isGot (l : Launch) (dC : Nat → ClassId) (dI : Nat → Nat → Nat) (dA : Nat → ClassId) (sz : Nat) (X : va_W) (Γ : ty_G) (hU : Un Γ) (g : gh) (h0 k : Nat) (t_h0 : Γ h0 = (4, k)) : Met l yX2_isGot (.code yX2_isGot cX2_isGot 1 (Option.some Jvm.ClassFile.FieldType.boolean) :: AL) ({ frames := 0, cells := 0, slots := 0, locals := 0 }) (PCx dC dI dA sz X Γ g [.ref h0]) (va_Qi (fun (r : Int32) (u : gh) => u = g ∧ (((g 65 k = 1 ∨ g 65 k = 3 → r.toInt = 1) ∧ (¬ (g 65 k = 1 ∨ g 65 k = 3) → r.toInt = 0)))) (okb dC dI dA sz X Γ) (ty_A sz)) 0 0 (ty_A sz) := by
  refine Met.ofW (cc := cX2_isGot) (maxL := 1) (ret := (Option.some Jvm.ClassFile.FieldType.boolean)) (by decide) rfl ?_
  intro p e s m args below meth c s₁ B hml hv
  obtain ⟨rfl, hG, hE⟩ := hv
  have hx := B.exec
  have hb := B.bytes
  have hr := B.returns
  have hts := atoms_spec B.pre
  have hA : ∀ w ∈ AL, w.before _ s = true := fun w h => hts w (List.mem_cons_of_mem _ h)
  have hown : s.vm.findClass RX2 = some m.cls := findClass_of_methodNamed B.named
  have hlocks := B.notSynchronized
  have hS : va_S (ty_A sz) s.heap s.heap [] := va_S.rf
  have hl := lv_entry ([.ref h0]) (n := 1) (Nat.le_of_ble_eq_true rfl)
  rw [lg_entry_eq]
  generalize (lg_sl ([.ref h0]) ++ List.replicate (1 - (lg_sl ([.ref h0])).length) Slot.unset).toArray = ls at hl ⊢
  have hl : lv_has ls 1 [(0, .ref h0)] := hl
  refine lv_aload_n hx hb dX2_isGot_0 rfl (lv_at hl 0 rfl) ?_
  refine get_X2_6 hx hb hA hown hE hG t_h0 wd_3_32 dX2_isGot_1 (fun x1 h2 => ?_)
  refine ty_iconst hx hb (1) dX2_isGot_4 (by decide) (fun x4 h5 => ?_)
  refine ty_icmp_eq (tgt := 16) hx hb dX2_isGot_5 (by decide) (fun c6 => ?_) (fun c6 => ?_)
  · skip
    refine ty_iconst hx hb (1) dX2_isGot_16 (by decide) (fun x7 h8 => ?_)
    refine lv_goto (tgt := 21) hx hb dX2_isGot_17 (by decide) ?_
    exact W.zret (v := x7) hx hb hr (ty_nb (by omega)).1 (fun t ht hW => ⟨⟨x7, g, rfl, ⟨rfl, (by omega)⟩, ok1 ht hG⟩, hS.F ht⟩) hS.2.2 dX2_isGot_21
  · skip
    refine lv_aload_n hx hb dX2_isGot_8 rfl (lv_at hl 0 rfl) ?_
    refine get_X2_6 hx hb hA hown hE hG t_h0 wd_3_32 dX2_isGot_9 (fun x9 h10 => ?_)
    refine ty_iconst hx hb (3) dX2_isGot_12 (by decide) (fun x12 h13 => ?_)
    refine ty_icmp_ne (tgt := 20) hx hb dX2_isGot_13 (by decide) (fun c14 => ?_) (fun c14 => ?_)
    · skip
      refine ty_iconst hx hb (0) dX2_isGot_20 (by decide) (fun x15 h16 => ?_)
      exact W.zret (v := x15) hx hb hr (ty_nb (by omega)).1 (fun t ht hW => ⟨⟨x15, g, rfl, ⟨rfl, (by omega)⟩, ok1 ht hG⟩, hS.F ht⟩) hS.2.2 dX2_isGot_21
    · skip
      refine ty_iconst hx hb (1) dX2_isGot_16 (by decide) (fun x17 h18 => ?_)
      refine lv_goto (tgt := 21) hx hb dX2_isGot_17 (by decide) ?_
      exact W.zret (v := x17) hx hb hr (ty_nb (by omega)).1 (fun t ht hW => ⟨⟨x17, g, rfl, ⟨rfl, (by omega)⟩, ok1 ht hG⟩, hS.F ht⟩) hS.2.2 dX2_isGot_21

set_option maxHeartbeats 4000000 in
set_option maxRecDepth 100000 in
/-- WeekBank$Gift.isOut:  -/
theorem k_X2_isOut (l : Launch) (dC : Nat → ClassId) (dI : Nat → Nat → Nat) (dA : Nat → ClassId) (sz : Nat) (X : va_W) (Γ : ty_G) (hU : Un Γ) (g : gh) (h0 k : Nat) (t_h0 : Γ h0 = (4, k)) : Met l yX2_isOut (.code yX2_isOut cX2_isOut 1 (Option.some Jvm.ClassFile.FieldType.boolean) :: AL) ({ frames := 1, cells := 0, slots := 0, locals := 20 }) (PCx dC dI dA sz X Γ g [.ref h0]) (va_Qi (fun (r : Int32) (u : gh) => u = g ∧ (((0 ≤ g 65 k ∧ g 65 k ≤ 3 → r.toInt = 1) ∧ (¬ (0 ≤ g 65 k ∧ g 65 k ≤ 3) → r.toInt = 0)))) (okb dC dI dA sz X Γ) (ty_A sz)) 0 0 (ty_A sz) := by
  refine Met.ofW (cc := cX2_isOut) (maxL := 1) (ret := (Option.some Jvm.ClassFile.FieldType.boolean)) (by decide) rfl ?_
  intro p e s m args below meth c s₁ B hml hv
  obtain ⟨rfl, hG, hE⟩ := hv
  have hx := B.exec
  have hb := B.bytes
  have hr := B.returns
  have hts := atoms_spec B.pre
  have hA : ∀ w ∈ AL, w.before _ s = true := fun w h => hts w (List.mem_cons_of_mem _ h)
  have hown : s.vm.findClass RX2 = some m.cls := findClass_of_methodNamed B.named
  have hlocks := B.notSynchronized
  have hS : va_S (ty_A sz) s.heap s.heap [] := va_S.rf
  have hl := lv_entry ([.ref h0]) (n := 1) (Nat.le_of_ble_eq_true rfl)
  rw [lg_entry_eq]
  generalize (lg_sl ([.ref h0]) ++ List.replicate (1 - (lg_sl ([.ref h0])).length) Slot.unset).toArray = ls at hl ⊢
  have hl : lv_has ls 1 [(0, .ref h0)] := hl
  refine lv_aload_n hx hb dX2_isOut_0 rfl (lv_at hl 0 rfl) ?_
  refine get_X2_6 hx hb hA hown hE hG t_h0 wd_3_32 dX2_isOut_1 (fun x1 h2 => ?_)
  refine ty_if_eq (tgt := 22) hx hb dX2_isOut_4 (by decide) (fun c4 => ?_) (fun c4 => ?_)
  · skip
    refine ty_iconst hx hb (1) dX2_isOut_22 (by decide) (fun x5 h6 => ?_)
    refine lv_goto (tgt := 27) hx hb dX2_isOut_23 (by decide) ?_
    exact W.zret (v := x5) hx hb hr (ty_nb (by omega)).1 (fun t ht hW => ⟨⟨x5, g, rfl, ⟨rfl, (by omega)⟩, ok1 ht hG⟩, hS.F ht⟩) hS.2.2 dX2_isOut_27
  · skip
    refine lv_aload_n hx hb dX2_isOut_7 rfl (lv_at hl 0 rfl) ?_
    refine get_X2_6 hx hb hA hown hE hG t_h0 wd_3_32 dX2_isOut_8 (fun x7 h8 => ?_)
    refine ty_iconst hx hb (2) dX2_isOut_11 (by decide) (fun x10 h11 => ?_)
    refine ty_icmp_eq (tgt := 22) hx hb dX2_isOut_12 (by decide) (fun c12 => ?_) (fun c12 => ?_)
    · skip
      refine ty_iconst hx hb (1) dX2_isOut_22 (by decide) (fun x13 h14 => ?_)
      refine lv_goto (tgt := 27) hx hb dX2_isOut_23 (by decide) ?_
      exact W.zret (v := x13) hx hb hr (ty_nb (by omega)).1 (fun t ht hW => ⟨⟨x13, g, rfl, ⟨rfl, (by omega)⟩, ok1 ht hG⟩, hS.F ht⟩) hS.2.2 dX2_isOut_27
    · skip
      refine lv_aload_n hx hb dX2_isOut_15 rfl (lv_at hl 0 rfl) ?_
      refine cI (va_runV (C := RX2) (As := []) (rest := []) ⟨hx, hb, hml, hown, hA⟩ (k_X2_isGot l dC dI dA sz X Γ hU g h0 k t_h0   ) ⟨callB_of 0 hA (al_A wd_2_67) rfl rfl rfl (hA _ wd_1_15) (hA _ wd_2_64) (by decide +kernel) ⟨Nat.le_of_ble_eq_true rfl, Nat.le_of_ble_eq_true rfl⟩, hA _ wd_2_65, hA _ wd_2_66⟩ ⟨bl, recv_X2 hE hG (by rw [t_h0]), fun U hU9 hW9 => ⟨rfl, by rw [hU9]; exact hG, hE.go hS hU9 hW9⟩⟩ rfl rfl hl.1 rfl (lv_room (Nat.le_of_ble_eq_true rfl)) dX2_isOut_16 ⟨Nat.zero_le _, Nat.zero_le _⟩) hS (fun x17 u15 H locs w16 hG hS => ?_)
      obtain ⟨eu18, w16⟩ := w16
      rw [eu18] at hG
      rcases pz_or w16 with w16 | w16
      · skip
        refine ty_if_eq (tgt := 26) hx hb dX2_isOut_19 (by decide) (fun c19 => ?_) (fun c19 => ?_)
        · exfalso; omega
        · skip
          refine ty_iconst hx hb (1) dX2_isOut_22 (by decide) (fun x20 h21 => ?_)
          refine lv_goto (tgt := 27) hx hb dX2_isOut_23 (by decide) ?_
          exact W.zret (v := x20) hx hb hr (ty_nb (by omega)).1 (fun t ht hW => ⟨⟨x20, g, rfl, ⟨rfl, (by omega)⟩, ok1 ht hG⟩, hS.F ht⟩) hS.2.2 dX2_isOut_27
      · skip
        refine ty_if_eq (tgt := 26) hx hb dX2_isOut_19 (by decide) (fun c22 => ?_) (fun c22 => ?_)
        · skip
          refine ty_iconst hx hb (0) dX2_isOut_26 (by decide) (fun x23 h24 => ?_)
          exact W.zret (v := x23) hx hb hr (ty_nb (by omega)).1 (fun t ht hW => ⟨⟨x23, g, rfl, ⟨rfl, (by omega)⟩, ok1 ht hG⟩, hS.F ht⟩) hS.2.2 dX2_isOut_27
        · exfalso; omega

set_option maxHeartbeats 4000000 in
set_option maxRecDepth 100000 in
/-- WeekBank$Gift.meets:  -/
theorem k_X2_meets (l : Launch) (dC : Nat → ClassId) (dI : Nat → Nat → Nat) (dA : Nat → ClassId) (sz : Nat) (X : va_W) (Γ : ty_G) (hU : Un Γ) (g : gh) (h0 k : Nat) (t_h0 : Γ h0 = (4, k)) (q1 : Option Nat) (z_q1 : Int) (n_q1 : q1 = none → z_q1 = -1) (t_q1 : ∀ b, q1 = some b → Γ b = (5, z_q1.toNat) ∧ 0 ≤ z_q1) : Met l yX2_meets (.code yX2_meets cX2_meets 3 (Option.some Jvm.ClassFile.FieldType.boolean) :: AL) ({ frames := 0, cells := 0, slots := 0, locals := 0 }) (PCx dC dI dA sz X Γ g [.ref h0, va_rf q1]) (va_Qi (fun (r : Int32) (u : gh) => u = g ∧ ((r.toInt = mz_b z_q1 ((g 41) ((g 61) k).toNat) ((g 42) ((g 61) k).toNat) ((g 62) k)))) (okb dC dI dA sz X Γ) (ty_A sz)) 0 0 (ty_A sz) := by
  refine Met.ofW (cc := cX2_meets) (maxL := 3) (ret := (Option.some Jvm.ClassFile.FieldType.boolean)) (by decide) rfl ?_
  intro p e s m args below meth c s₁ B hml hv
  obtain ⟨rfl, hG, hE⟩ := hv
  have hx := B.exec
  have hb := B.bytes
  have hr := B.returns
  have hts := atoms_spec B.pre
  have hA : ∀ w ∈ AL, w.before _ s = true := fun w h => hts w (List.mem_cons_of_mem _ h)
  have hown : s.vm.findClass RX2 = some m.cls := findClass_of_methodNamed B.named
  have hlocks := B.notSynchronized
  have hS : va_S (ty_A sz) s.heap s.heap [] := va_S.rf
  have hl := lv_entry ([.ref h0, va_rf q1]) (n := 3) (by cases q1 <;> exact Nat.le_of_ble_eq_true rfl)
  rw [lg_entry_eq]
  generalize (lg_sl ([.ref h0, va_rf q1]) ++ List.replicate (3 - (lg_sl ([.ref h0, va_rf q1])).length) Slot.unset).toArray = ls at hl ⊢
  have hl : lv_has ls 3 [(0, .ref h0), (1, va_rf q1)] := by cases q1 <;> exact hl
  refine ty_aload_nq hx hb dX2_meets_0 rfl (lv_at hl 1 rfl) ?_
  refine ty_ifnonnull (tgt := 6) hx hb dX2_meets_1 (by decide) (fun b1 h2 => ?_) (fun h2 => ?_)
  · skip
    obtain ⟨t_b1, p_b1⟩ := t_q1 b1 h2
    clear t_q1 n_q1
    subst h2
    have hl : lv_has ls 3 [(0, .ref h0), (1, .ref b1)] := hl
    refine lv_aload_n hx hb dX2_meets_6 rfl (lv_at hl 1 rfl) ?_
    refine get_X7_0 hx hb hA hown hE hG t_b1 wd_3_87 dX2_meets_7 (fun x3 h4 => ?_)
    refine ty_iconst hx hb (-1) dX2_meets_10 (by decide) (fun x5 h6 => ?_)
    refine ty_icmp_eq (tgt := 28) hx hb dX2_meets_11 (by decide) (fun c7 => ?_) (fun c7 => ?_)
    · skip
      refine ty_iconst hx hb (1) dX2_meets_28 (by decide) (fun x8 h9 => ?_)
      refine lv_goto (tgt := 33) hx hb dX2_meets_29 (by decide) ?_
      refine lv_istore_n (lv' := [(2, .int x8), (0, .ref h0), (1, .ref b1)]) hx hb dX2_meets_33 rfl hl (by decide) rfl (fun ls hl => ?_)
      refine lv_iload_n hx hb dX2_meets_34 rfl (lv_at hl 0 rfl) ?_
      refine ty_if_eq (tgt := 78) hx hb dX2_meets_35 (by decide) (fun c10 => ?_) (fun c10 => ?_)
      · exfalso; omega
      · skip
        refine lv_aload_n hx hb dX2_meets_38 rfl (lv_at hl 1 rfl) ?_
        refine get_X2_3 hx hb hA hown hE hG t_h0 wd_3_25 dX2_meets_39 (fun x11 h12 => ?_)
        refine lv_aload_n hx hb dX2_meets_42 rfl (lv_at hl 2 rfl) ?_
        refine get_X7_1 hx hb hA hown hE hG t_b1 wd_3_89 dX2_meets_43 (fun x14 h15 => ?_)
        refine ty_icmp_lt (tgt := 78) hx hb dX2_meets_46 (by decide) (fun c16 => ?_) (fun c16 => ?_)
        · skip
          refine ty_iconst hx hb (0) dX2_meets_78 (by decide) (fun x17 h18 => ?_)
          exact W.zret (v := x17) hx hb hr (ty_nb (by omega)).1 (fun t ht hW => ⟨⟨x17, g, rfl, ⟨rfl, (by unfold mz_b; split <;> omega)⟩, ok1 ht hG⟩, hS.F ht⟩) hS.2.2 dX2_meets_79
        · skip
          refine lv_aload_n hx hb dX2_meets_49 rfl (lv_at hl 1 rfl) ?_
          refine get_X2_3 hx hb hA hown hE hG t_h0 wd_3_25 dX2_meets_50 (fun x19 h20 => ?_)
          refine lv_aload_n hx hb dX2_meets_53 rfl (lv_at hl 2 rfl) ?_
          refine get_X7_2 hx hb hA hown hE hG t_b1 wd_3_91 dX2_meets_54 (fun x22 h23 => ?_)
          refine ty_icmp_gt (tgt := 78) hx hb dX2_meets_57 (by decide) (fun c24 => ?_) (fun c24 => ?_)
          · skip
            refine ty_iconst hx hb (0) dX2_meets_78 (by decide) (fun x25 h26 => ?_)
            exact W.zret (v := x25) hx hb hr (ty_nb (by omega)).1 (fun t ht hW => ⟨⟨x25, g, rfl, ⟨rfl, (by unfold mz_b; split <;> omega)⟩, ok1 ht hG⟩, hS.F ht⟩) hS.2.2 dX2_meets_79
          · skip
            refine lv_aload_n hx hb dX2_meets_60 rfl (lv_at hl 1 rfl) ?_
            refine get_X2_2 hx hb hA hown hE hG t_h0 wd_3_23 dX2_meets_61 (fun b27 t_b27 p_b27 => ?_)
            refine get_X1_2 hx hb hA hown hE hG t_b27 wd_1_216 dX2_meets_64 (fun x28 h29 => ?_)
            refine lv_aload_n hx hb dX2_meets_67 rfl (lv_at hl 2 rfl) ?_
            refine get_X7_3 hx hb hA hown hE hG t_b1 wd_3_93 dX2_meets_68 (fun x31 h32 => ?_)
            refine ty_icmp_lt (tgt := 78) hx hb dX2_meets_71 (by decide) (fun c33 => ?_) (fun c33 => ?_)
            · skip
              refine ty_iconst hx hb (0) dX2_meets_78 (by decide) (fun x34 h35 => ?_)
              exact W.zret (v := x34) hx hb hr (ty_nb (by omega)).1 (fun t ht hW => ⟨⟨x34, g, rfl, ⟨rfl, (by unfold mz_b; split <;> omega)⟩, ok1 ht hG⟩, hS.F ht⟩) hS.2.2 dX2_meets_79
            · skip
              refine ty_iconst hx hb (1) dX2_meets_74 (by decide) (fun x36 h37 => ?_)
              refine lv_goto (tgt := 79) hx hb dX2_meets_75 (by decide) ?_
              exact W.zret (v := x36) hx hb hr (ty_nb (by omega)).1 (fun t ht hW => ⟨⟨x36, g, rfl, ⟨rfl, (by unfold mz_b; split <;> omega)⟩, ok1 ht hG⟩, hS.F ht⟩) hS.2.2 dX2_meets_79
    · skip
      refine lv_aload_n hx hb dX2_meets_14 rfl (lv_at hl 1 rfl) ?_
      refine get_X7_0 hx hb hA hown hE hG t_b1 wd_3_87 dX2_meets_15 (fun x38 h39 => ?_)
      refine lv_aload_n hx hb dX2_meets_18 rfl (lv_at hl 0 rfl) ?_
      refine get_X2_2 hx hb hA hown hE hG t_h0 wd_3_23 dX2_meets_19 (fun b40 t_b40 p_b40 => ?_)
      refine get_X1_1 hx hb hA hown hE hG t_b40 wd_1_214 dX2_meets_22 (fun x41 h42 => ?_)
      refine ty_icmp_ne (tgt := 32) hx hb dX2_meets_25 (by decide) (fun c44 => ?_) (fun c44 => ?_)
      · skip
        refine ty_iconst hx hb (0) dX2_meets_32 (by decide) (fun x45 h46 => ?_)
        refine lv_istore_n (lv' := [(2, .int x45), (0, .ref h0), (1, .ref b1)]) hx hb dX2_meets_33 rfl hl (by decide) rfl (fun ls hl => ?_)
        refine lv_iload_n hx hb dX2_meets_34 rfl (lv_at hl 0 rfl) ?_
        refine ty_if_eq (tgt := 78) hx hb dX2_meets_35 (by decide) (fun c47 => ?_) (fun c47 => ?_)
        · skip
          refine ty_iconst hx hb (0) dX2_meets_78 (by decide) (fun x48 h49 => ?_)
          exact W.zret (v := x48) hx hb hr (ty_nb (by omega)).1 (fun t ht hW => ⟨⟨x48, g, rfl, ⟨rfl, (by unfold mz_b; split <;> omega)⟩, ok1 ht hG⟩, hS.F ht⟩) hS.2.2 dX2_meets_79
        · exfalso; omega
      · skip
        refine ty_iconst hx hb (1) dX2_meets_28 (by decide) (fun x50 h51 => ?_)
        refine lv_goto (tgt := 33) hx hb dX2_meets_29 (by decide) ?_
        refine lv_istore_n (lv' := [(2, .int x50), (0, .ref h0), (1, .ref b1)]) hx hb dX2_meets_33 rfl hl (by decide) rfl (fun ls hl => ?_)
        refine lv_iload_n hx hb dX2_meets_34 rfl (lv_at hl 0 rfl) ?_
        refine ty_if_eq (tgt := 78) hx hb dX2_meets_35 (by decide) (fun c52 => ?_) (fun c52 => ?_)
        · exfalso; omega
        · skip
          refine lv_aload_n hx hb dX2_meets_38 rfl (lv_at hl 1 rfl) ?_
          refine get_X2_3 hx hb hA hown hE hG t_h0 wd_3_25 dX2_meets_39 (fun x53 h54 => ?_)
          refine lv_aload_n hx hb dX2_meets_42 rfl (lv_at hl 2 rfl) ?_
          refine get_X7_1 hx hb hA hown hE hG t_b1 wd_3_89 dX2_meets_43 (fun x56 h57 => ?_)
          refine ty_icmp_lt (tgt := 78) hx hb dX2_meets_46 (by decide) (fun c58 => ?_) (fun c58 => ?_)
          · skip
            refine ty_iconst hx hb (0) dX2_meets_78 (by decide) (fun x59 h60 => ?_)
            exact W.zret (v := x59) hx hb hr (ty_nb (by omega)).1 (fun t ht hW => ⟨⟨x59, g, rfl, ⟨rfl, (by unfold mz_b; split <;> omega)⟩, ok1 ht hG⟩, hS.F ht⟩) hS.2.2 dX2_meets_79
          · skip
            refine lv_aload_n hx hb dX2_meets_49 rfl (lv_at hl 1 rfl) ?_
            refine get_X2_3 hx hb hA hown hE hG t_h0 wd_3_25 dX2_meets_50 (fun x61 h62 => ?_)
            refine lv_aload_n hx hb dX2_meets_53 rfl (lv_at hl 2 rfl) ?_
            refine get_X7_2 hx hb hA hown hE hG t_b1 wd_3_91 dX2_meets_54 (fun x64 h65 => ?_)
            refine ty_icmp_gt (tgt := 78) hx hb dX2_meets_57 (by decide) (fun c66 => ?_) (fun c66 => ?_)
            · skip
              refine ty_iconst hx hb (0) dX2_meets_78 (by decide) (fun x67 h68 => ?_)
              exact W.zret (v := x67) hx hb hr (ty_nb (by omega)).1 (fun t ht hW => ⟨⟨x67, g, rfl, ⟨rfl, (by unfold mz_b; split <;> omega)⟩, ok1 ht hG⟩, hS.F ht⟩) hS.2.2 dX2_meets_79
            · skip
              refine lv_aload_n hx hb dX2_meets_60 rfl (lv_at hl 1 rfl) ?_
              refine get_X2_2 hx hb hA hown hE hG t_h0 wd_3_23 dX2_meets_61 (fun b69 t_b69 p_b69 => ?_)
              refine get_X1_2 hx hb hA hown hE hG t_b69 wd_1_216 dX2_meets_64 (fun x70 h71 => ?_)
              refine lv_aload_n hx hb dX2_meets_67 rfl (lv_at hl 2 rfl) ?_
              refine get_X7_3 hx hb hA hown hE hG t_b1 wd_3_93 dX2_meets_68 (fun x73 h74 => ?_)
              refine ty_icmp_lt (tgt := 78) hx hb dX2_meets_71 (by decide) (fun c75 => ?_) (fun c75 => ?_)
              · skip
                refine ty_iconst hx hb (0) dX2_meets_78 (by decide) (fun x76 h77 => ?_)
                exact W.zret (v := x76) hx hb hr (ty_nb (by omega)).1 (fun t ht hW => ⟨⟨x76, g, rfl, ⟨rfl, (by unfold mz_b; split <;> omega)⟩, ok1 ht hG⟩, hS.F ht⟩) hS.2.2 dX2_meets_79
              · skip
                refine ty_iconst hx hb (1) dX2_meets_74 (by decide) (fun x78 h79 => ?_)
                refine lv_goto (tgt := 79) hx hb dX2_meets_75 (by decide) ?_
                exact W.zret (v := x78) hx hb hr (ty_nb (by omega)).1 (fun t ht hW => ⟨⟨x78, g, rfl, ⟨rfl, (by unfold mz_b; split <;> omega)⟩, ok1 ht hG⟩, hS.F ht⟩) hS.2.2 dX2_meets_79
  · skip
    have hz80 := n_q1 h2
    subst h2
    have hl : lv_has ls 3 [(0, .ref h0), (1, .null)] := hl
    refine ty_iconst hx hb (0) dX2_meets_4 (by decide) (fun x81 h82 => ?_)
    exact W.zret (v := x81) hx hb hr (ty_nb (by omega)).1 (fun t ht hW => ⟨⟨x81, g, rfl, ⟨rfl, (by unfold mz_b; split <;> omega)⟩, ok1 ht hG⟩, hS.F ht⟩) hS.2.2 dX2_meets_5

set_option maxHeartbeats 4000000 in
set_option maxRecDepth 100000 in
/-- WeekBank$Gift.goTo:  -/
theorem k_X2_goTo (l : Launch) (dC : Nat → ClassId) (dI : Nat → Nat → Nat) (dA : Nat → ClassId) (sz : Nat) (X : va_W) (Γ : ty_G) (hU : Un Γ) (g : gh) (h0 k : Nat) (t_h0 : Γ h0 = (4, k)) (p1 j : Nat) (t_p1 : Γ p1 = (3, j)) : Met l yX2_goTo (.code yX2_goTo cX2_goTo 2 (Option.none : Option Jvm.ClassFile.FieldType) :: AL) ({ frames := 0, cells := 0, slots := 0, locals := 0 }) (PCx dC dI dA sz X Γ g [.ref h0, .ref p1]) (va_Qv (fun (u : gh) => (∀ c j : Nat, c ≠ 51 → c ≠ 65 → c ≠ 68 → u c j = g c j) ∧ (u 65 = pz_up (g 65) k 3) ∧ (u 68 = pz_up (g 68) k ((j : Nat) : Int)) ∧ (u 51 = pz_up (g 51) j (ws (g 51 j) (g 64 k)))) (okb dC dI dA sz X Γ) (ty_A sz)) 0 0 (ty_A sz) := by
  refine Met.ofW (cc := cX2_goTo) (maxL := 2) (ret := (Option.none : Option Jvm.ClassFile.FieldType)) (by decide) rfl ?_
  intro p e s m args below meth c s₁ B hml hv
  obtain ⟨rfl, hG, hE⟩ := hv
  have hx := B.exec
  have hb := B.bytes
  have hr := B.returns
  have hts := atoms_spec B.pre
  have hA : ∀ w ∈ AL, w.before _ s = true := fun w h => hts w (List.mem_cons_of_mem _ h)
  have hown : s.vm.findClass RX2 = some m.cls := findClass_of_methodNamed B.named
  have hlocks := B.notSynchronized
  have hS : va_S (ty_A sz) s.heap s.heap [] := va_S.rf
  have hl := lv_entry ([.ref h0, .ref p1]) (n := 2) (Nat.le_of_ble_eq_true rfl)
  rw [lg_entry_eq]
  generalize (lg_sl ([.ref h0, .ref p1]) ++ List.replicate (2 - (lg_sl ([.ref h0, .ref p1])).length) Slot.unset).toArray = ls at hl ⊢
  have hl : lv_has ls 2 [(0, .ref h0), (1, .ref p1)] := hl
  refine lv_aload_n hx hb dX2_goTo_0 rfl (lv_at hl 0 rfl) ?_
  refine ty_iconst hx hb (3) dX2_goTo_1 (by decide) (fun x1 h2 => ?_)
  refine put_X2_6 hx hb hA hown hE hG hS hU t_h0 wd_3_32 dX2_goTo_2 (fun H locs hG hS => ?_)
  refine lv_aload_n hx hb dX2_goTo_5 rfl (lv_at hl 0 rfl) ?_
  refine lv_aload_n hx hb dX2_goTo_6 rfl (lv_at hl 1 rfl) ?_
  refine put_X2_9 (r := some p1) (z := ((j : Nat) : Int)) hx hb hA hown hE hG hS hU t_h0 wd_3_41 (rq_s t_p1).1 (rq_s t_p1).2 dX2_goTo_7 (fun H locs hG hS => ?_)
  refine lv_aload_n hx hb dX2_goTo_10 rfl (lv_at hl 1 rfl) ?_
  refine lv_dup hx hb dX2_goTo_11 rfl ?_
  refine get_X3_2 hx hb hA hown hE hG t_p1 wd_2_11 dX2_goTo_12 (fun x3 h4 => ?_)
  replace h4 : x3.toInt = g 51 j := by rw [h4, gs_c _ _ _ _ (by decide), gs_c _ _ _ _ (by decide)]
  refine lv_aload_n hx hb dX2_goTo_15 rfl (lv_at hl 0 rfl) ?_
  refine get_X2_5 hx hb hA hown hE hG t_h0 wd_3_29 dX2_goTo_16 (fun x6 h7 => ?_)
  replace h7 : x6.toInt = g 64 k := by rw [h7, gs_c _ _ _ _ (by decide), gs_c _ _ _ _ (by decide)]
  refine ty_isub hx hb dX2_goTo_19 (fun x9 h10 => ?_)
  have h11 : x9.toInt = ws (g 51 j) (g 64 k) := by rw [ty_ws h10, h4, h7]
  refine put_X3_2 hx hb hA hown hE hG hS hU t_p1 wd_2_11 dX2_goTo_20 (fun H locs hG hS => ?_)
  generalize eg13 : (gs (gs (gs g 65 k x1.toInt) 68 k ((j : Nat) : Int)) 51 j x9.toInt) = g12 at hG
  have hf14 : ∀ c j : Nat, c ≠ 65 → c ≠ 68 → c ≠ 51 → g12 c j = g c j := fun c j h65 h68 h51 => by rw [← eg13, gs_c _ _ _ _ h51, gs_c _ _ _ _ h68, gs_c _ _ _ _ h65]
  have v15 : g12 65 k = x1.toInt := by rw [← eg13, gs_c _ _ _ _ (by decide), gs_c _ _ _ _ (by decide), gs_self]
  have hw16 : g12 65 = (pz_up (g 65) k x1.toInt) := by rw [← eg13, gs_r _ _ _ (by decide), gs_r _ _ _ (by decide), pz_gs]
  have v17 : g12 68 k = ((j : Nat) : Int) := by rw [← eg13, gs_c _ _ _ _ (by decide), gs_self]
  have hw18 : g12 68 = (pz_up (g 68) k ((j : Nat) : Int)) := by rw [← eg13, gs_r _ _ _ (by decide), pz_gs, gs_r _ _ _ (by decide)]
  have v19 : g12 51 j = x9.toInt := by rw [← eg13, gs_self]
  have hw20 : g12 51 = (pz_up (g 51) j x9.toInt) := by rw [← eg13, pz_gs, gs_r _ _ _ (by decide), gs_r _ _ _ (by decide)]
  exact W.vret hx hb hr (fun t ht hW => ⟨⟨g12, rfl, ⟨(fun c j h51 h65 h68 => by rw [hf14 c j h65 h68 h51]), (by rw [hw16] <;> exact congrArg (pz_up _ _) (by omega)), (by rw [hw18] <;> exact congrArg (pz_up _ _) (by omega)), (by rw [hw20] <;> exact congrArg (pz_up _ _) (by omega))⟩, ok1 ht hG⟩, hS.F ht⟩) hS.2.2 dX2_goTo_23

set_option maxHeartbeats 4000000 in
set_option maxRecDepth 100000 in
/-- WeekBank$Gift.endByShutting:  -/
theorem k_X2_endByShutting (l : Launch) (dC : Nat → ClassId) (dI : Nat → Nat → Nat) (dA : Nat → ClassId) (sz : Nat) (X : va_W) (Γ : ty_G) (hU : Un Γ) (g : gh) (h0 k : Nat) (t_h0 : Γ h0 = (4, k)) : Met l yX2_endByShutting (.code yX2_endByShutting cX2_endByShutting 1 (Option.none : Option Jvm.ClassFile.FieldType) :: AL) ({ frames := 1, cells := 0, slots := 0, locals := 20 }) (PCx dC dI dA sz X Γ g [.ref h0]) (va_Qv (fun (u : gh) => (∀ c j : Nat, c ≠ 51 → c ≠ 65 → u c j = g c j) ∧ (u 51 = es_p (g 51) (g 65) (g 60) (g 68) (g 64) k) ∧ (u 65 = es_s (g 65) k)) (okb dC dI dA sz X Γ) (ty_A sz)) 0 0 (ty_A sz) := by
  refine Met.ofW (cc := cX2_endByShutting) (maxL := 1) (ret := (Option.none : Option Jvm.ClassFile.FieldType)) (by decide) rfl ?_
  intro p e s m args below meth c s₁ B hml hv
  obtain ⟨rfl, hG, hE⟩ := hv
  have hx := B.exec
  have hb := B.bytes
  have hr := B.returns
  have hts := atoms_spec B.pre
  have hA : ∀ w ∈ AL, w.before _ s = true := fun w h => hts w (List.mem_cons_of_mem _ h)
  have hown : s.vm.findClass RX2 = some m.cls := findClass_of_methodNamed B.named
  have hlocks := B.notSynchronized
  have hS : va_S (ty_A sz) s.heap s.heap [] := va_S.rf
  have hl := lv_entry ([.ref h0]) (n := 1) (Nat.le_of_ble_eq_true rfl)
  rw [lg_entry_eq]
  generalize (lg_sl ([.ref h0]) ++ List.replicate (1 - (lg_sl ([.ref h0])).length) Slot.unset).toArray = ls at hl ⊢
  have hl : lv_has ls 1 [(0, .ref h0)] := hl
  refine lv_aload_n hx hb dX2_endByShutting_0 rfl (lv_at hl 0 rfl) ?_
  refine cI (va_runV (C := RX2) (As := []) (rest := []) ⟨hx, hb, hml, hown, hA⟩ (k_X2_isGot l dC dI dA sz X Γ hU g h0 k t_h0   ) ⟨callB_of 0 hA (al_A wd_2_67) rfl rfl rfl (hA _ wd_1_15) (hA _ wd_2_64) (by decide +kernel) ⟨Nat.le_of_ble_eq_true rfl, Nat.le_of_ble_eq_true rfl⟩, hA _ wd_2_65, hA _ wd_2_66⟩ ⟨bl, recv_X2 hE hG (by rw [t_h0]), fun U hU9 hW9 => ⟨rfl, by rw [hU9]; exact hG, hE.go hS hU9 hW9⟩⟩ rfl rfl hl.1 rfl (lv_room (Nat.le_of_ble_eq_true rfl)) dX2_endByShutting_1 ⟨Nat.zero_le _, Nat.zero_le _⟩) hS (fun x3 u1 H locs w2 hG hS => ?_)
  obtain ⟨eu4, w2⟩ := w2
  rw [eu4] at hG
  rcases pz_or w2 with w2 | w2
  · skip
    refine ty_if_eq (tgt := 36) hx hb dX2_endByShutting_4 (by decide) (fun c5 => ?_) (fun c5 => ?_)
    · exfalso; omega
    · skip
      refine lv_aload_n hx hb dX2_endByShutting_7 rfl (lv_at hl 0 rfl) ?_
      refine get_X2_9 hx hb hA hown hE hG t_h0 wd_3_41 dX2_endByShutting_8 (fun r6 n_r6 t_r6 => ?_)
      refine ty_ifnull (tgt := 30) hx hb dX2_endByShutting_11 (by decide) (fun h8 => ?_) (fun b7 h8 => ?_)
      · skip
        have hz9 := n_r6 h8
        subst h8
        have hl : lv_has ls 1 [(0, .ref h0)] := hl
        refine lv_aload_n hx hb dX2_endByShutting_30 rfl (lv_at hl 0 rfl) ?_
        refine ty_iconst hx hb (5) dX2_endByShutting_31 (by decide) (fun x10 h11 => ?_)
        refine put_X2_6 hx hb hA hown hE hG hS hU t_h0 wd_3_32 dX2_endByShutting_32 (fun H locs hG hS => ?_)
        exact W.vret hx hb hr (fun t ht hW => ⟨⟨(gs g 65 k x10.toInt), rfl, ⟨(fun c j h51 h65 => by rw [gs_c _ _ _ _ h65]), (by rw [gs_r _ _ _ (by decide)]; exact es_1 (by omega) (by omega)), (by rw [pz_gs]; exact es_5 (by omega) (by omega))⟩, ok1 ht hG⟩, hS.F ht⟩) hS.2.2 dX2_endByShutting_35
      · skip
        obtain ⟨t_b7, p_b7⟩ := t_r6 b7 h8
        clear t_r6 n_r6
        subst h8
        have hl : lv_has ls 1 [(0, .ref h0)] := hl
        refine lv_aload_n hx hb dX2_endByShutting_14 rfl (lv_at hl 0 rfl) ?_
        refine get_X2_9 hx hb hA hown hE hG t_h0 wd_3_41 dX2_endByShutting_15 (fun r12 n_r12 t_r12 => ?_)
        refine lv_dup hx hb dX2_endByShutting_18 (by cases r12 <;> rfl) ?_
        obtain ⟨b13, h14⟩ := Option.ne_none_iff_exists'.mp (fun h9 => absurd (n_r12 h9) (by omega))
        obtain ⟨t_b13, p_b13⟩ := t_r12 b13 h14
        clear t_r12 n_r12
        subst h14
        have hl : lv_has ls 1 [(0, .ref h0)] := hl
        refine get_X3_2 hx hb hA hown hE hG t_b13 wd_2_11 dX2_endByShutting_19 (fun x15 h16 => ?_)
        refine lv_aload_n hx hb dX2_endByShutting_22 rfl (lv_at hl 0 rfl) ?_
        refine get_X2_5 hx hb hA hown hE hG t_h0 wd_3_29 dX2_endByShutting_23 (fun x18 h19 => ?_)
        refine ty_iadd hx hb dX2_endByShutting_26 (fun x21 h22 => ?_)
        have h23 : x21.toInt = wa (g 51 ((g 68 k)).toNat) (g 64 k) := by rw [ty_wa h22, h16, h19]
        refine put_X3_2 hx hb hA hown hE hG hS hU t_b13 wd_2_11 dX2_endByShutting_27 (fun H locs hG hS => ?_)
        refine lv_aload_n hx hb dX2_endByShutting_30 rfl (lv_at hl 0 rfl) ?_
        refine ty_iconst hx hb (5) dX2_endByShutting_31 (by decide) (fun x24 h25 => ?_)
        refine put_X2_6 hx hb hA hown hE hG hS hU t_h0 wd_3_32 dX2_endByShutting_32 (fun H locs hG hS => ?_)
        exact W.vret hx hb hr (fun t ht hW => ⟨⟨(gs (gs g 51 ((g 68 k)).toNat x21.toInt) 65 k x24.toInt), rfl, ⟨(fun c j h51 h65 => by rw [gs_c _ _ _ _ h65, gs_c _ _ _ _ h51]), (by rw [gs_r _ _ _ (by decide), pz_gs]; exact es_2 (by omega) (by omega) (by omega)), (by rw [pz_gs, gs_r _ _ _ (by decide)]; exact es_5 (by omega) (by omega))⟩, ok1 ht hG⟩, hS.F ht⟩) hS.2.2 dX2_endByShutting_35
  · skip
    refine ty_if_eq (tgt := 36) hx hb dX2_endByShutting_4 (by decide) (fun c26 => ?_) (fun c26 => ?_)
    · skip
      refine lv_aload_n hx hb dX2_endByShutting_36 rfl (lv_at hl 0 rfl) ?_
      refine get_X2_6 hx hb hA hown hE hG t_h0 wd_3_32 dX2_endByShutting_37 (fun x27 h28 => ?_)
      refine ty_iconst hx hb (2) dX2_endByShutting_40 (by decide) (fun x30 h31 => ?_)
      refine ty_icmp_ne (tgt := 67) hx hb dX2_endByShutting_41 (by decide) (fun c32 => ?_) (fun c32 => ?_)
      · skip
        refine lv_aload_n hx hb dX2_endByShutting_67 rfl (lv_at hl 0 rfl) ?_
        refine ty_iconst hx hb (4) dX2_endByShutting_68 (by decide) (fun x33 h34 => ?_)
        refine put_X2_6 hx hb hA hown hE hG hS hU t_h0 wd_3_32 dX2_endByShutting_69 (fun H locs hG hS => ?_)
        exact W.vret hx hb hr (fun t ht hW => ⟨⟨(gs g 65 k x33.toInt), rfl, ⟨(fun c j h51 h65 => by rw [gs_c _ _ _ _ h65]), (by rw [gs_r _ _ _ (by decide)]; exact es_4 (by omega) (by omega)), (by rw [pz_gs]; exact es_6 (by omega) (by omega))⟩, ok1 ht hG⟩, hS.F ht⟩) hS.2.2 dX2_endByShutting_72
      · skip
        refine lv_aload_n hx hb dX2_endByShutting_44 rfl (lv_at hl 0 rfl) ?_
        refine get_X2_1 hx hb hA hown hE hG t_h0 wd_3_20 dX2_endByShutting_45 (fun b35 t_b35 p_b35 => ?_)
        refine ty_iconst hx hb (0) dX2_endByShutting_48 (by decide) (fun x36 h37 => ?_)
        refine lv_aload_n hx hb dX2_endByShutting_49 rfl (lv_at hl 0 rfl) ?_
        refine get_X2_1 hx hb hA hown hE hG t_h0 wd_3_20 dX2_endByShutting_50 (fun b38 t_b38 p_b38 => ?_)
        refine get_X3_2 hx hb hA hown hE hG t_b38 wd_2_11 dX2_endByShutting_53 (fun x39 h40 => ?_)
        refine lv_aload_n hx hb dX2_endByShutting_56 rfl (lv_at hl 0 rfl) ?_
        refine get_X2_5 hx hb hA hown hE hG t_h0 wd_3_29 dX2_endByShutting_57 (fun x42 h43 => ?_)
        refine ty_isub hx hb dX2_endByShutting_60 (fun x45 h46 => ?_)
        have h47 : x45.toInt = ws (g 51 (g 60 k).toNat) (g 64 k) := by rw [ty_ws h46, h40, h43]
        refine va_mmax hx hb (hml.trans hl.1.symm) hown (hA _ wd_3_216) (hA _ wd_2_199) (hA _ wd_1_14) (hA _ wd_2_200) (Nat.le_of_ble_eq_true rfl) (Nat.le_of_ble_eq_true rfl) (Nat.zero_le _) (Nat.zero_le _) dX2_endByShutting_61 ?_
        refine lv_topi (fun x48 h49 => ?_)
        have h49 : x48.toInt = if x36.toInt < x45.toInt then x45.toInt else x36.toInt := by rw [h49]; simp only [ty_lt32]; split <;> rfl
        refine put_X3_2 hx hb hA hown hE hG hS hU t_b35 wd_2_11 dX2_endByShutting_64 (fun H locs hG hS => ?_)
        refine lv_aload_n hx hb dX2_endByShutting_67 rfl (lv_at hl 0 rfl) ?_
        refine ty_iconst hx hb (4) dX2_endByShutting_68 (by decide) (fun x50 h51 => ?_)
        refine put_X2_6 hx hb hA hown hE hG hS hU t_h0 wd_3_32 dX2_endByShutting_69 (fun H locs hG hS => ?_)
        exact W.vret hx hb hr (fun t ht hW => ⟨⟨(gs (gs g 51 (g 60 k).toNat x48.toInt) 65 k x50.toInt), rfl, ⟨(fun c j h51 h65 => by rw [gs_c _ _ _ _ h65, gs_c _ _ _ _ h51]), (by rw [gs_r _ _ _ (by decide), pz_gs]; exact es_3 (by omega) (by omega) (by unfold mx0; omega)), (by rw [pz_gs, gs_r _ _ _ (by decide)]; exact es_6 (by omega) (by omega))⟩, ok1 ht hG⟩, hS.F ht⟩) hS.2.2 dX2_endByShutting_72
    · exfalso; omega

set_option maxHeartbeats 4000000 in
set_option maxRecDepth 100000 in
/-- WeekBank$Flat.passTo:  -/
theorem k_X1_passTo (l : Launch) (dC : Nat → ClassId) (dI : Nat → Nat → Nat) (dA : Nat → ClassId) (sz : Nat) (X : va_W) (Γ : ty_G) (hU : Un Γ) (g : gh) (h0 i : Nat) (t_h0 : Γ h0 = (2, i)) (p1 : Int32) (q2 : Option Nat) (z_q2 : Int) (n_q2 : q2 = none → z_q2 = -1) (t_q2 : ∀ b, q2 = some b → Γ b = (3, z_q2.toNat) ∧ 0 ≤ z_q2) (hw : 0 ≤ p1.toInt ∧ p1.toInt ≤ 52) : Met l yX1_passTo (.code yX1_passTo cX1_passTo 4 (Option.none : Option Jvm.ClassFile.FieldType) :: AL) ({ frames := 1, cells := 0, slots := 0, locals := 20 }) (PCx dC dI dA sz X Γ g [.ref h0, .int p1, va_rf q2]) (va_Qv (fun (u : gh) => (∀ c j : Nat, c ≠ 43 → c ≠ 53 → u c j = g c j) ∧ (u 43 = pz_up (g 43) (53 * i + p1.toInt.toNat) z_q2) ∧ (u 53 = pa_w (g 53) ((g 43) (53 * i + p1.toInt.toNat)) z_q2)) (okb dC dI dA sz X Γ) (ty_A sz)) 0 0 (ty_A sz) := by
  refine Met.ofW (cc := cX1_passTo) (maxL := 4) (ret := (Option.none : Option Jvm.ClassFile.FieldType)) (by decide) rfl ?_
  intro p e s m args below meth c s₁ B hml hv
  obtain ⟨rfl, hG, hE⟩ := hv
  have hx := B.exec
  have hb := B.bytes
  have hr := B.returns
  have hts := atoms_spec B.pre
  have hA : ∀ w ∈ AL, w.before _ s = true := fun w h => hts w (List.mem_cons_of_mem _ h)
  have hown : s.vm.findClass RX1 = some m.cls := findClass_of_methodNamed B.named
  have hlocks := B.notSynchronized
  have hS : va_S (ty_A sz) s.heap s.heap [] := va_S.rf
  have hl := lv_entry ([.ref h0, .int p1, va_rf q2]) (n := 4) (by cases q2 <;> exact Nat.le_of_ble_eq_true rfl)
  rw [lg_entry_eq]
  generalize (lg_sl ([.ref h0, .int p1, va_rf q2]) ++ List.replicate (4 - (lg_sl ([.ref h0, .int p1, va_rf q2])).length) Slot.unset).toArray = ls at hl ⊢
  have hl : lv_has ls 4 [(0, .ref h0), (1, .int p1), (2, va_rf q2)] := by cases q2 <;> exact hl
  refine lv_iload_n hx hb dX1_passTo_0 rfl (lv_at hl 1 rfl) ?_
  refine cI (va_runSN (As := [.int p1]) (rest := []) ⟨hx, hb, hml, hown, hA⟩ (k_X8_isWeek l dC dI dA sz X Γ hU g p1   ) ⟨va_cnB 1 hA (al_A wd_2_59) rfl rfl rfl hE.2.1.2.2.2.1 (hA _ wd_1_1) (by decide +kernel) ⟨Nat.le_of_ble_eq_true rfl, Nat.le_of_ble_eq_true rfl⟩, hA _ wd_2_58, trivial⟩ ⟨bl, fun U hU9 hW9 => ⟨rfl, by rw [hU9]; exact hG, hE.go hS hU9 hW9⟩⟩ rfl rfl hl.1 rfl (lv_room (Nat.le_of_ble_eq_true rfl)) dX1_passTo_1 ⟨Nat.zero_le _, Nat.zero_le _⟩) hS (fun x3 u1 H locs w2 hG hS => ?_)
  obtain ⟨eu4, w2⟩ := w2
  rw [eu4] at hG
  rcases pz_or w2 with w2 | w2
  · skip
    refine ty_if_ne (tgt := 8) hx hb dX1_passTo_4 (by decide) (fun c5 => ?_) (fun c5 => ?_)
    · skip
      refine lv_aload_n hx hb dX1_passTo_8 rfl (lv_at hl 0 rfl) ?_
      refine get_X1_3 hx hb hA hown hE hG t_h0 wd_1_218 dX1_passTo_9 (fun b6 t_b6 => ?_)
      refine lv_iload_n hx hb dX1_passTo_12 rfl (lv_at hl 1 rfl) ?_
      refine ald_13 hx hb hE hG t_b6 (by omega) dX1_passTo_13 (fun j8 r7 h9 n_r7 t_r7 => ?_)
      obtain rfl : j8 = p1.toInt.toNat := by omega
      clear h9
      refine ty_astore_nq (lv' := [(3, va_rf r7), (0, .ref h0), (1, .int p1), (2, va_rf q2)]) hx hb dX1_passTo_14 rfl hl (by decide) (by cases q2 <;> rfl) (fun ls hl => ?_)
      refine ty_aload_nq hx hb dX1_passTo_15 rfl (lv_at hl 0 rfl) ?_
      refine ty_ifnull (tgt := 29) hx hb dX1_passTo_16 (by decide) (fun h12 => ?_) (fun b11 h12 => ?_)
      · skip
        have hz13 := n_r7 h12
        subst h12
        have hl : lv_has ls 4 [(3, .null), (0, .ref h0), (1, .int p1), (2, va_rf q2)] := hl
        refine ty_aload_nq hx hb dX1_passTo_29 rfl (lv_at hl 3 rfl) ?_
        refine ty_ifnull (tgt := 43) hx hb dX1_passTo_30 (by decide) (fun h15 => ?_) (fun b14 h15 => ?_)
        · skip
          have hz16 := n_q2 h15
          subst h15
          have hl : lv_has ls 4 [(3, .null), (0, .ref h0), (1, .int p1), (2, .null)] := hl
          refine lv_aload_n hx hb dX1_passTo_43 rfl (lv_at hl 1 rfl) ?_
          refine get_X1_3 hx hb hA hown hE hG t_h0 wd_1_218 dX1_passTo_44 (fun b17 t_b17 => ?_)
          refine lv_iload_n hx hb dX1_passTo_47 rfl (lv_at hl 2 rfl) ?_
          refine lv_aload_nN hx hb dX1_passTo_48 rfl (lv_at hl 3 rfl) ?_
          refine ast_13 (r := none) (z := (-1)) hx hb hE hG hS hU t_b17 (fun _ => rfl) (fun _ h => by cases h) (by omega) dX1_passTo_49 (fun H locs hG hS => ?_)
          exact W.vret hx hb hr (fun t ht hW => ⟨⟨(gs g 43 (53 * i + p1.toInt.toNat) (-1)), rfl, ⟨(fun c j h43 h53 => by rw [gs_c _ _ _ _ h43]), (by rw [pz_gs] <;> exact congrArg (pz_up _ _) (by omega)), (by rw [gs_r _ _ _ (by decide)]; exact pa_1 (by omega) (by omega))⟩, ok1 ht hG⟩, hS.F ht⟩) hS.2.2 dX1_passTo_50
        · skip
          obtain ⟨t_b14, p_b14⟩ := t_q2 b14 h15
          clear t_q2 n_q2
          subst h15
          have hl : lv_has ls 4 [(3, .null), (0, .ref h0), (1, .int p1), (2, .ref b14)] := hl
          refine lv_aload_n hx hb dX1_passTo_33 rfl (lv_at hl 3 rfl) ?_
          refine lv_dup hx hb dX1_passTo_34 rfl ?_
          refine get_X3_4 hx hb hA hown hE hG t_b14 wd_2_16 dX1_passTo_35 (fun x18 h19 => ?_)
          refine ty_iconst hx hb (1) dX1_passTo_38 (by decide) (fun x21 h22 => ?_)
          refine ty_iadd hx hb dX1_passTo_39 (fun x23 h24 => ?_)
          have h25 : x23.toInt = wa (g 53 (z_q2).toNat) (1) := by rw [ty_wa h24, h19, h22]
          refine put_X3_4 hx hb hA hown hE hG hS hU t_b14 wd_2_16 dX1_passTo_40 (fun H locs hG hS => ?_)
          refine lv_aload_n hx hb dX1_passTo_43 rfl (lv_at hl 1 rfl) ?_
          refine get_X1_3 hx hb hA hown hE hG t_h0 wd_1_218 dX1_passTo_44 (fun b26 t_b26 => ?_)
          refine lv_iload_n hx hb dX1_passTo_47 rfl (lv_at hl 2 rfl) ?_
          refine lv_aload_n hx hb dX1_passTo_48 rfl (lv_at hl 3 rfl) ?_
          refine ast_13 (r := some b14) (z := (z_q2)) hx hb hE hG hS hU t_b26 (rq_z t_b14 p_b14).1 (rq_z t_b14 p_b14).2 (by omega) dX1_passTo_49 (fun H locs hG hS => ?_)
          exact W.vret hx hb hr (fun t ht hW => ⟨⟨(gs (gs g 53 (z_q2).toNat x23.toInt) 43 (53 * i + p1.toInt.toNat) (z_q2)), rfl, ⟨(fun c j h43 h53 => by rw [gs_c _ _ _ _ h43, gs_c _ _ _ _ h53]), (by rw [pz_gs, gs_r _ _ _ (by decide)] <;> exact congrArg (pz_up _ _) (by omega)), (by rw [gs_r _ _ _ (by decide), pz_gs]; exact pa_2 (by omega) (by omega) (by omega))⟩, ok1 ht hG⟩, hS.F ht⟩) hS.2.2 dX1_passTo_50
      · skip
        obtain ⟨t_b11, p_b11⟩ := t_r7 b11 h12
        clear t_r7 n_r7
        subst h12
        have hl : lv_has ls 4 [(3, .ref b11), (0, .ref h0), (1, .int p1), (2, va_rf q2)] := hl
        refine lv_aload_n hx hb dX1_passTo_19 rfl (lv_at hl 0 rfl) ?_
        refine lv_dup hx hb dX1_passTo_20 rfl ?_
        refine get_X3_4 hx hb hA hown hE hG t_b11 wd_2_16 dX1_passTo_21 (fun x27 h28 => ?_)
        refine ty_iconst hx hb (1) dX1_passTo_24 (by decide) (fun x30 h31 => ?_)
        refine ty_isub hx hb dX1_passTo_25 (fun x32 h33 => ?_)
        have h34 : x32.toInt = ws (g 53 ((g 43 (53 * i + p1.toInt.toNat))).toNat) (1) := by rw [ty_ws h33, h28, h31]
        refine put_X3_4 hx hb hA hown hE hG hS hU t_b11 wd_2_16 dX1_passTo_26 (fun H locs hG hS => ?_)
        refine ty_aload_nq hx hb dX1_passTo_29 rfl (lv_at hl 3 rfl) ?_
        refine ty_ifnull (tgt := 43) hx hb dX1_passTo_30 (by decide) (fun h36 => ?_) (fun b35 h36 => ?_)
        · skip
          have hz37 := n_q2 h36
          subst h36
          have hl : lv_has ls 4 [(3, .ref b11), (0, .ref h0), (1, .int p1), (2, .null)] := hl
          refine lv_aload_n hx hb dX1_passTo_43 rfl (lv_at hl 1 rfl) ?_
          refine get_X1_3 hx hb hA hown hE hG t_h0 wd_1_218 dX1_passTo_44 (fun b38 t_b38 => ?_)
          refine lv_iload_n hx hb dX1_passTo_47 rfl (lv_at hl 2 rfl) ?_
          refine lv_aload_nN hx hb dX1_passTo_48 rfl (lv_at hl 3 rfl) ?_
          refine ast_13 (r := none) (z := (-1)) hx hb hE hG hS hU t_b38 (fun _ => rfl) (fun _ h => by cases h) (by omega) dX1_passTo_49 (fun H locs hG hS => ?_)
          exact W.vret hx hb hr (fun t ht hW => ⟨⟨(gs (gs g 53 ((g 43 (53 * i + p1.toInt.toNat))).toNat x32.toInt) 43 (53 * i + p1.toInt.toNat) (-1)), rfl, ⟨(fun c j h43 h53 => by rw [gs_c _ _ _ _ h43, gs_c _ _ _ _ h53]), (by rw [pz_gs, gs_r _ _ _ (by decide)] <;> exact congrArg (pz_up _ _) (by omega)), (by rw [gs_r _ _ _ (by decide), pz_gs]; exact pa_3 (by omega) (by omega) (by omega))⟩, ok1 ht hG⟩, hS.F ht⟩) hS.2.2 dX1_passTo_50
        · skip
          obtain ⟨t_b35, p_b35⟩ := t_q2 b35 h36
          clear t_q2 n_q2
          subst h36
          have hl : lv_has ls 4 [(3, .ref b11), (0, .ref h0), (1, .int p1), (2, .ref b35)] := hl
          refine lv_aload_n hx hb dX1_passTo_33 rfl (lv_at hl 3 rfl) ?_
          refine lv_dup hx hb dX1_passTo_34 rfl ?_
          refine get_X3_4 hx hb hA hown hE hG t_b35 wd_2_16 dX1_passTo_35 (fun x39 h40 => ?_)
          replace h40 : x39.toInt = (pz_up (g 53) ((g 43 (53 * i + p1.toInt.toNat))).toNat x32.toInt) (z_q2).toNat := by rw [h40, pz_gs]
          refine ty_iconst hx hb (1) dX1_passTo_38 (by decide) (fun x42 h43 => ?_)
          refine ty_iadd hx hb dX1_passTo_39 (fun x44 h45 => ?_)
          have h46 : x44.toInt = wa ((pz_up (g 53) ((g 43 (53 * i + p1.toInt.toNat))).toNat x32.toInt) (z_q2).toNat) (1) := by rw [ty_wa h45, h40, h43]
          refine put_X3_4 hx hb hA hown hE hG hS hU t_b35 wd_2_16 dX1_passTo_40 (fun H locs hG hS => ?_)
          refine lv_aload_n hx hb dX1_passTo_43 rfl (lv_at hl 1 rfl) ?_
          refine get_X1_3 hx hb hA hown hE hG t_h0 wd_1_218 dX1_passTo_44 (fun b47 t_b47 => ?_)
          refine lv_iload_n hx hb dX1_passTo_47 rfl (lv_at hl 2 rfl) ?_
          refine lv_aload_n hx hb dX1_passTo_48 rfl (lv_at hl 3 rfl) ?_
          refine ast_13 (r := some b35) (z := (z_q2)) hx hb hE hG hS hU t_b47 (rq_z t_b35 p_b35).1 (rq_z t_b35 p_b35).2 (by omega) dX1_passTo_49 (fun H locs hG hS => ?_)
          generalize eg49 : (gs (gs (gs g 53 ((g 43 (53 * i + p1.toInt.toNat))).toNat x32.toInt) 53 (z_q2).toNat x44.toInt) 43 (53 * i + p1.toInt.toNat) (z_q2)) = g48 at hG
          have hf50 : ∀ c j : Nat, c ≠ 53 → c ≠ 43 → g48 c j = g c j := fun c j h53 h43 => by rw [← eg49, gs_c _ _ _ _ h43, gs_c _ _ _ _ h53, gs_c _ _ _ _ h53]
          have v51 : g48 53 (z_q2).toNat = x44.toInt := by rw [← eg49, gs_c _ _ _ _ (by decide), gs_self]
          have hw52 : g48 53 = (pz_up (pz_up (g 53) ((g 43 (53 * i + p1.toInt.toNat))).toNat x32.toInt) (z_q2).toNat x44.toInt) := by rw [← eg49, gs_r _ _ _ (by decide), pz_gs, pz_gs]
          have v53 : g48 43 (53 * i + p1.toInt.toNat) = (z_q2) := by rw [← eg49, gs_self]
          have hw54 : g48 43 = (pz_up (g 43) (53 * i + p1.toInt.toNat) (z_q2)) := by rw [← eg49, pz_gs, gs_r _ _ _ (by decide), gs_r _ _ _ (by decide)]
          exact W.vret hx hb hr (fun t ht hW => ⟨⟨g48, rfl, ⟨(fun c j h43 h53 => by rw [hf50 c j h53 h43]), (by rw [hw54] <;> exact congrArg (pz_up _ _) (by omega)), (by rw [hw52]; exact pa_4 (by omega) (by omega) (by omega) (by omega))⟩, ok1 ht hG⟩, hS.F ht⟩) hS.2.2 dX1_passTo_50
    · exfalso; omega
  · skip
    refine ty_if_ne (tgt := 8) hx hb dX1_passTo_4 (by decide) (fun c55 => ?_) (fun c55 => ?_)
    · exfalso; omega
    · exfalso; omega

set_option maxHeartbeats 4000000 in
set_option maxRecDepth 100000 in
/-- WeekBank$Flat.beginYear:  -/
theorem k_X1_beginYear (l : Launch) (dC : Nat → ClassId) (dI : Nat → Nat → Nat) (dA : Nat → ClassId) (sz : Nat) (X : va_W) (Γ : ty_G) (hU : Un Γ) (g : gh) (h0 i : Nat) (t_h0 : Γ h0 = (2, i)) : Met l yX1_beginYear (.code yX1_beginYear cX1_beginYear 2 (Option.none : Option Jvm.ClassFile.FieldType) :: AL) ({ frames := 0, cells := 0, slots := 0, locals := 0 }) (PCx dC dI dA sz X Γ g [.ref h0]) (va_Qv (fun (u : gh) => (∀ c j : Nat, c ≠ 44 → c ≠ 45 → u c j = g c j) ∧ (u 44 = fz (g 44) (53 * i) 0 53) ∧ (u 45 = fz (g 45) (53 * i) (-1) 53)) (okb dC dI dA sz X Γ) (ty_A sz)) 0 0 (ty_A sz) := by
  refine Met.ofW (cc := cX1_beginYear) (maxL := 2) (ret := (Option.none : Option Jvm.ClassFile.FieldType)) (by decide) rfl ?_
  intro p e s m args below meth c s₁ B hml hv
  obtain ⟨rfl, hG, hE⟩ := hv
  have hx := B.exec
  have hb := B.bytes
  have hr := B.returns
  have hts := atoms_spec B.pre
  have hA : ∀ w ∈ AL, w.before _ s = true := fun w h => hts w (List.mem_cons_of_mem _ h)
  have hown : s.vm.findClass RX1 = some m.cls := findClass_of_methodNamed B.named
  have hlocks := B.notSynchronized
  have hS : va_S (ty_A sz) s.heap s.heap [] := va_S.rf
  have hl := lv_entry ([.ref h0]) (n := 2) (Nat.le_of_ble_eq_true rfl)
  rw [lg_entry_eq]
  generalize (lg_sl ([.ref h0]) ++ List.replicate (2 - (lg_sl ([.ref h0])).length) Slot.unset).toArray = ls at hl ⊢
  have hl : lv_has ls 2 [(0, .ref h0)] := hl
  refine ty_iconst hx hb (0) dX1_beginYear_0 (by decide) (fun x1 h2 => ?_)
  refine lv_istore_n (lv' := [(1, .int x1), (0, .ref h0)]) hx hb dX1_beginYear_1 rfl hl (by decide) rfl (fun ls hl => ?_)
  have L_2 : ∀ (n : Nat) (v1_2 : Int32) (g3 : gh) (H : Heap) (locs : List Loc) (ls : Array Slot), (53 - v1_2.toInt : Int) < n → 0 ≤ v1_2.toInt ∧ v1_2.toInt ≤ 53 → (∀ c j : Nat, c ≠ 44 → c ≠ 45 → g3 c j = g c j) → (g3 44 = fz (g 44) (53 * i) (0) v1_2.toInt.toNat) → (g3 45 = fz (g 45) (53 * i) (-1) v1_2.toInt.toNat) → ty_ok (dC, dI) vwCl Γ (TP dA Γ g3) sz X H → va_S (ty_A sz) s.heap H locs → lv_has ls 2 [(1, .int v1_2), (0, .ref h0)] → W p l e (headSpec (.code yX1_beginYear cX1_beginYear 2 (Option.none : Option Jvm.ClassFile.FieldType) :: AL) ({ frames := 0, cells := 0, slots := 0, locals := 0 })).room s m ([.ref h0] : List Value).toArray below meth c H locs 0 0 (MQ below (va_Qv (fun (u : gh) => (∀ c j : Nat, c ≠ 44 → c ≠ 45 → u c j = g c j) ∧ (u 44 = fz (g 44) (53 * i) 0 53) ∧ (u 45 = fz (g 45) (53 * i) (-1) 53)) (okb dC dI dA sz X Γ) (ty_A sz)) ([.ref h0] : List Value).toArray s 0 0 (ty_A sz)) (F0 m 2 ls []) := by
    intro n
    induction n with
    | zero => intro v1_2 g3 H locs ls hm hi0 hf4 hq0 hq1 hG hS hl; exfalso; omega
    | succ n ih_2 =>
      intro v1_2 g3 H locs ls hm hi0 hf4 hq0 hq1 hG hS hl
      refine lv_iload_n hx hb dX1_beginYear_2 rfl (lv_at hl 0 rfl) ?_
      refine ty_bipush hx hb (53) dX1_beginYear_3 (by decide) (fun x5 h6 => ?_)
      refine ty_icmp_ge (tgt := 28) hx hb dX1_beginYear_5 (by decide) (fun c7 => ?_) (fun c7 => ?_)
      · skip
        exact W.vret hx hb hr (fun t ht hW => ⟨⟨g3, rfl, ⟨(fun c j h44 h45 => by rw [hf4 c j h44 h45]), (by rw [hq0]; rw [show v1_2.toInt.toNat = 53 by omega]), (by rw [hq1]; rw [show v1_2.toInt.toNat = 53 by omega])⟩, ok1 ht hG⟩, hS.F ht⟩) hS.2.2 dX1_beginYear_28
      · skip
        refine lv_aload_n hx hb dX1_beginYear_8 rfl (lv_at hl 1 rfl) ?_
        refine get_X1_4 hx hb hA hown hE hG t_h0 wd_1_220 dX1_beginYear_9 (fun b8 t_b8 => ?_)
        refine lv_iload_n hx hb dX1_beginYear_12 rfl (lv_at hl 0 rfl) ?_
        refine ty_iconst hx hb (0) dX1_beginYear_13 (by decide) (fun x9 h10 => ?_)
        refine ast_14 hx hb hE hG hS hU t_b8 (by omega) (by omega) dX1_beginYear_14 (fun H locs hG hS => ?_)
        refine lv_aload_n hx hb dX1_beginYear_15 rfl (lv_at hl 1 rfl) ?_
        refine get_X1_5 hx hb hA hown hE hG t_h0 wd_1_222 dX1_beginYear_16 (fun b11 t_b11 => ?_)
        refine lv_iload_n hx hb dX1_beginYear_19 rfl (lv_at hl 0 rfl) ?_
        refine lv_null hx hb dX1_beginYear_20 ?_
        refine ast_15 (r := none) (z := (-1)) hx hb hE hG hS hU t_b11 (fun _ => rfl) (fun _ h => by cases h) (by omega) dX1_beginYear_21 (fun H locs hG hS => ?_)
        obtain ⟨x12, h13⟩ : ∃ y : Int32, y = v1_2 + Int32.ofInt (1) := ⟨_, rfl⟩
        try have h14 : x12.toInt = v1_2.toInt + (1) := ty_inc h13 (by decide) (by omega) (by omega)
        refine lv_iinc (v := x12) (lv' := [(1, .int x12), (0, .ref h0)]) hx hb dX1_beginYear_22 hl (k := 0) rfl h13.symm (by decide) rfl (fun ls hl => ?_)
        refine lv_goto (tgt := 2) hx hb dX1_beginYear_25 (by decide) ?_
        exact ih_2 x12 (gs (gs g3 44 (53 * i + v1_2.toInt.toNat) x9.toInt) 45 (53 * i + v1_2.toInt.toNat) (-1)) _ _ ls (by omega) (by omega) (fun c j h44 h45 => by rw [gs_c _ _ _ _ h45, gs_c _ _ _ _ h44, hf4 c j h44 h45]) (by rw [gs_r _ _ _ (by decide), pz_gs]; exact fz_s hq0 (by omega) rfl (by omega)) (by rw [pz_gs, gs_r _ _ _ (by decide)]; exact fz_s hq1 (by omega) rfl (by omega)) hG hS (lv_sub hl [0, 1] rfl)
  exact L_2 ((53 - x1.toInt) + 1).toNat x1 g _ _ ls (by omega) (by omega) (fun c j _ _ => rfl) (fz_0 (by omega)) (fz_0 (by omega)) hG hS (lv_sub hl [0, 1] rfl)

set_option maxHeartbeats 4000000 in
set_option maxRecDepth 100000 in
/-- WeekBank$Wish.<init>:  -/
theorem k_X7_init (l : Launch) (dC : Nat → ClassId) (dI : Nat → Nat → Nat) (dA : Nat → ClassId) (sz : Nat) (X : va_W) (Γ : ty_G) (hU : Un Γ) (g : gh) (h0 : Nat) (p1 : Int32) (p2 : Int32) (p3 : Int32) (p4 : Int32) (hw : -1 ≤ p1.toInt ∧ 0 ≤ p2.toInt ∧ p2.toInt ≤ 52 ∧ 0 ≤ p3.toInt ∧ p3.toInt ≤ 52 ∧ 0 ≤ p4.toInt ∧ p4.toInt ≤ 4) : Met l yX7_init (.code yX7_init cX7_init 5 (Option.none : Option Jvm.ClassFile.FieldType) :: AL) ({ frames := 1, cells := 0, slots := 0, locals := 12 }) (PCx dC dI dA sz ((h0, .inr (7, dv_X7)) :: X) Γ g [.ref h0, .int p1, .int p2, .int p3, .int p4]) (va_Qv (fun (u : (ty_G × gh)) => ext Γ u.1 ∧ Un u.1 ∧ Nw [5] Γ u.1 (wz_c p1.toInt p2.toInt p3.toInt p4.toInt).toNat ∧ u.1 h0 = (5, (wz_c p1.toInt p2.toInt p3.toInt p4.toInt).toNat) ∧ u.2 = g) (okB dC dI dA sz X) (ty_A sz)) 0 0 (ty_A sz) := by
  refine Met.ofW (cc := cX7_init) (maxL := 5) (ret := (Option.none : Option Jvm.ClassFile.FieldType)) (by decide) rfl ?_
  intro p e s m args below meth c s₁ B hml hv
  obtain ⟨rfl, hG, hE⟩ := hv
  have hx := B.exec
  have hb := B.bytes
  have hr := B.returns
  have hts := atoms_spec B.pre
  have hA : ∀ w ∈ AL, w.before _ s = true := fun w h => hts w (List.mem_cons_of_mem _ h)
  have hown : s.vm.findClass RX7 = some m.cls := findClass_of_methodNamed B.named
  have hlocks := B.notSynchronized
  have hin : meth.name = "<init>" := (name_of_methodNamed B.named B.method).1
  have hS : va_S (ty_A sz) s.heap s.heap [] := va_S.rf
  have hNw : Nw [5] Γ Γ (wz_c p1.toInt p2.toInt p3.toInt p4.toInt).toNat := Nw.rf
  have hl := lv_entry ([.ref h0, .int p1, .int p2, .int p3, .int p4]) (n := 5) (Nat.le_of_ble_eq_true rfl)
  rw [lg_entry_eq]
  generalize (lg_sl ([.ref h0, .int p1, .int p2, .int p3, .int p4]) ++ List.replicate (5 - (lg_sl ([.ref h0, .int p1, .int p2, .int p3, .int p4])).length) Slot.unset).toArray = ls at hl ⊢
  have hl : lv_has ls 5 [(0, .ref h0), (1, .int p1), (2, .int p2), (3, .int p3), (4, .int p4)] := hl
  refine lv_aload_n hx hb dX7_init_0 rfl (lv_at hl 0 rfl) ?_
  refine W.objInit hx hb hown (hA _ wd_3_85) (hA _ wd_1_28) (hA _ wd_1_29) rfl (by rw [hml]; exact hl.1) rfl dX7_init_1 (Nat.le_of_ble_eq_true rfl) (Nat.le_of_ble_eq_true rfl) ?_
  refine W.eq (g2 := F0 m 4 ls []) rfl ?_
  refine lv_aload_n hx hb dX7_init_4 rfl (lv_at hl 0 rfl) ?_
  refine lv_iload_n hx hb dX7_init_5 rfl (lv_at hl 1 rfl) ?_
  refine rw_X7 hx hb hA hE hG hS hown hin rfl 0 (by decide) wd_3_86 rfl (ty := .int) (tyX7_ok 0 (by decide)) rfl rfl (Nat.le_of_ble_eq_true rfl) dX7_init_6 (fun H locs hG hS => ?_)
  replace hG : ty_ok (dC, dI) vwCl Γ (TP dA Γ g) sz ((h0, .inr (7, [.int p1, .int 0, .int 0, .int 0])) :: X) H := hG
  refine lv_aload_n hx hb dX7_init_9 rfl (lv_at hl 0 rfl) ?_
  refine lv_iload_n hx hb dX7_init_10 rfl (lv_at hl 2 rfl) ?_
  refine rw_X7 hx hb hA hE hG hS hown hin rfl 1 (by decide) wd_3_88 rfl (ty := .int) (tyX7_ok 1 (by decide)) rfl rfl (Nat.le_of_ble_eq_true rfl) dX7_init_11 (fun H locs hG hS => ?_)
  replace hG : ty_ok (dC, dI) vwCl Γ (TP dA Γ g) sz ((h0, .inr (7, [.int p1, .int p2, .int 0, .int 0])) :: X) H := hG
  refine lv_aload_n hx hb dX7_init_14 rfl (lv_at hl 0 rfl) ?_
  refine lv_iload_n hx hb dX7_init_15 rfl (lv_at hl 3 rfl) ?_
  refine rw_X7 hx hb hA hE hG hS hown hin rfl 2 (by decide) wd_3_90 rfl (ty := .int) (tyX7_ok 2 (by decide)) rfl rfl (Nat.le_of_ble_eq_true rfl) dX7_init_16 (fun H locs hG hS => ?_)
  replace hG : ty_ok (dC, dI) vwCl Γ (TP dA Γ g) sz ((h0, .inr (7, [.int p1, .int p2, .int p3, .int 0])) :: X) H := hG
  refine lv_aload_n hx hb dX7_init_19 rfl (lv_at hl 0 rfl) ?_
  refine lv_iload hx hb dX7_init_20 (lv_at hl 4 rfl) ?_
  refine rw_X7 hx hb hA hE hG hS hown hin rfl 3 (by decide) wd_3_92 rfl (ty := .int) (tyX7_ok 3 (by decide)) rfl rfl (Nat.le_of_ble_eq_true rfl) dX7_init_22 (fun H locs hG hS => ?_)
  replace hG : ty_ok (dC, dI) vwCl Γ (TP dA Γ g) sz ((h0, .inr (7, [.int p1, .int p2, .int p3, .int p4])) :: X) H := hG
  have z_own : ty Γ h0 0 := (hG.2.2.2 _ List.mem_cons_self).2.1
  have hx1 : ext Γ (va_up Γ h0 (5, (wz_c p1.toInt p2.toInt p3.toInt p4.toInt).toNat)) := ext.up z_own
  have hG := tp_adopt (t := (5, (wz_c p1.toInt p2.toInt p3.toInt p4.toInt).toNat)) hG (by rw [TP_5 rfl]; exact ⟨_, rfl, rfl, fun k hk => match k, hk with
        | 0, _ => ⟨_, rfl, (wz_ok (by omega) (by omega) (by omega) (by omega)).2.1.symm⟩
        | 1, _ => ⟨_, rfl, (wz_ok (by omega) (by omega) (by omega) (by omega)).2.2.1.symm⟩
        | 2, _ => ⟨_, rfl, (wz_ok (by omega) (by omega) (by omega) (by omega)).2.2.2.1.symm⟩
        | 3, _ => ⟨_, rfl, (wz_ok (by omega) (by omega) (by omega) (by omega)).2.2.2.2.symm⟩
      ⟩)
  obtain ⟨Γ2, eΓ2⟩ : ∃ z, z = va_up Γ h0 (5, (wz_c p1.toInt p2.toInt p3.toInt p4.toInt).toNat) := ⟨_, rfl⟩
  rw [← eΓ2] at hG
  have hx3 : ext Γ Γ2 := by rw [eΓ2]; exact ext.up z_own
  have hU : Un Γ2 := by rw [eΓ2]; exact Un.up0 hU rfl rfl
  replace hNw : Nw [5] Γ Γ2 (wz_c p1.toInt p2.toInt p3.toInt p4.toInt).toNat := by rw [eΓ2]; exact Nw.up hNw (by decide)
  have hX4 : ext Γ Γ2 := ext.trans ext.rf hx3
  have t_h0 : Γ2 h0 = (5, (wz_c p1.toInt p2.toInt p3.toInt p4.toInt).toNat) := by rw [eΓ2, va_up_self]
  clear z_own
  exact W.vret hx hb hr (fun t ht hW => ⟨⟨(Γ2, g), rfl, ⟨hX4, hU, hNw, t_h0, rfl⟩, ok2 ht hG⟩, hS.F ht⟩) hS.2.2 dX7_init_25

set_option maxHeartbeats 4000000 in
set_option maxRecDepth 100000 in
/-- WeekBank$Gift.<init>:  -/
theorem k_X2_init (l : Launch) (dC : Nat → ClassId) (dI : Nat → Nat → Nat) (dA : Nat → ClassId) (sz : Nat) (X : va_W) (Γ : ty_G) (hU : Un Γ) (g : gh) (h0 : Nat) (p1 : Int32) (p2 j : Nat) (t_p2 : Γ p2 = (3, j)) (p3 f : Nat) (t_p3 : Γ p3 = (2, f)) (p4 : Int32) (ii : Nat) (hii : p1.toInt = (ii : Int)) (f4 : ∀ b, Γ b ≠ (4, ii)) : Met l yX2_init (.code yX2_init cX2_init 5 (Option.none : Option Jvm.ClassFile.FieldType) :: AL) ({ frames := 1, cells := 0, slots := 0, locals := 12 }) (PCx dC dI dA sz ((h0, .inr (2, dv_X2)) :: X) Γ g [.ref h0, .int p1, .ref p2, .ref p3, .int p4]) (va_Qv (fun (u : (ty_G × gh)) => ext Γ u.1 ∧ Un u.1 ∧ Nw [4] Γ u.1 ii ∧ u.1 h0 = (4, ii) ∧ (∀ c j : Nat, c ≠ 60 → c ≠ 61 → c ≠ 62 → c ≠ 63 → c ≠ 64 → c ≠ 65 → c ≠ 66 → c ≠ 67 → c ≠ 68 → u.2 c j = g c j) ∧ (u.2 60 = pz_up (g 60) ii ((j : Nat) : Int)) ∧ (u.2 61 = pz_up (g 61) ii ((f : Nat) : Int)) ∧ (u.2 62 = pz_up (g 62) ii p4.toInt) ∧ (u.2 63 = pz_up (g 63) ii 0) ∧ (u.2 64 = pz_up (g 64) ii 0) ∧ (u.2 65 = pz_up (g 65) ii 0) ∧ (u.2 66 = pz_up (g 66) ii (-1)) ∧ (u.2 67 = pz_up (g 67) ii (-1)) ∧ (u.2 68 = pz_up (g 68) ii (-1))) (okB dC dI dA sz X) (ty_A sz)) 0 0 (ty_A sz) := by
  refine Met.ofW (cc := cX2_init) (maxL := 5) (ret := (Option.none : Option Jvm.ClassFile.FieldType)) (by decide) rfl ?_
  intro p e s m args below meth c s₁ B hml hv
  obtain ⟨rfl, hG, hE⟩ := hv
  have hx := B.exec
  have hb := B.bytes
  have hr := B.returns
  have hts := atoms_spec B.pre
  have hA : ∀ w ∈ AL, w.before _ s = true := fun w h => hts w (List.mem_cons_of_mem _ h)
  have hown : s.vm.findClass RX2 = some m.cls := findClass_of_methodNamed B.named
  have hlocks := B.notSynchronized
  have hin : meth.name = "<init>" := (name_of_methodNamed B.named B.method).1
  have hS : va_S (ty_A sz) s.heap s.heap [] := va_S.rf
  have hNw : Nw [4] Γ Γ ii := Nw.rf
  have hG := ty_gset (c := 60) (j := ii) (z := ((j : Nat) : Int)) hG (dp_fr f4)
  have hG := ty_gset (c := 61) (j := ii) (z := ((f : Nat) : Int)) hG (dp_fr f4)
  have hG := ty_gset (c := 62) (j := ii) (z := p4.toInt) hG (dp_fr f4)
  generalize eg2 : (gs (gs (gs g 60 ii ((j : Nat) : Int)) 61 ii ((f : Nat) : Int)) 62 ii p4.toInt) = g1 at hG
  have hf3 : ∀ c j : Nat, c ≠ 60 → c ≠ 61 → c ≠ 62 → g1 c j = g c j := fun c j h60 h61 h62 => by rw [← eg2, gs_c _ _ _ _ h62, gs_c _ _ _ _ h61, gs_c _ _ _ _ h60]
  have v4 : g1 60 ii = ((j : Nat) : Int) := by rw [← eg2, gs_c _ _ _ _ (by decide), gs_c _ _ _ _ (by decide), gs_self]
  have hw5 : g1 60 = (pz_up (g 60) ii ((j : Nat) : Int)) := by rw [← eg2, gs_r _ _ _ (by decide), gs_r _ _ _ (by decide), pz_gs]
  have v6 : g1 61 ii = ((f : Nat) : Int) := by rw [← eg2, gs_c _ _ _ _ (by decide), gs_self]
  have hw7 : g1 61 = (pz_up (g 61) ii ((f : Nat) : Int)) := by rw [← eg2, gs_r _ _ _ (by decide), pz_gs, gs_r _ _ _ (by decide)]
  have v8 : g1 62 ii = p4.toInt := by rw [← eg2, gs_self]
  have hw9 : g1 62 = (pz_up (g 62) ii p4.toInt) := by rw [← eg2, pz_gs, gs_r _ _ _ (by decide), gs_r _ _ _ (by decide)]
  have hG := ty_gset (c := 63) (j := ii) (z := 0) hG (dp_fr f4)
  have hG := ty_gset (c := 64) (j := ii) (z := 0) hG (dp_fr f4)
  have hG := ty_gset (c := 65) (j := ii) (z := 0) hG (dp_fr f4)
  generalize eg11 : (gs (gs (gs g1 63 ii 0) 64 ii 0) 65 ii 0) = g10 at hG
  have hf12 : ∀ c j : Nat, c ≠ 63 → c ≠ 64 → c ≠ 65 → g10 c j = g1 c j := fun c j h63 h64 h65 => by rw [← eg11, gs_c _ _ _ _ h65, gs_c _ _ _ _ h64, gs_c _ _ _ _ h63]
  have v13 : g10 63 ii = 0 := by rw [← eg11, gs_c _ _ _ _ (by decide), gs_c _ _ _ _ (by decide), gs_self]
  have hw14 : g10 63 = (pz_up (g 63) ii 0) := by rw [← eg11, gs_r _ _ _ (by decide), gs_r _ _ _ (by decide), pz_gs, (show g1 63 = g 63 from funext fun j => hf3 63 j (by decide) (by decide) (by decide))]
  have v15 : g10 64 ii = 0 := by rw [← eg11, gs_c _ _ _ _ (by decide), gs_self]
  have hw16 : g10 64 = (pz_up (g 64) ii 0) := by rw [← eg11, gs_r _ _ _ (by decide), pz_gs, gs_r _ _ _ (by decide), (show g1 64 = g 64 from funext fun j => hf3 64 j (by decide) (by decide) (by decide))]
  have v17 : g10 65 ii = 0 := by rw [← eg11, gs_self]
  have hw18 : g10 65 = (pz_up (g 65) ii 0) := by rw [← eg11, pz_gs, gs_r _ _ _ (by decide), gs_r _ _ _ (by decide), (show g1 65 = g 65 from funext fun j => hf3 65 j (by decide) (by decide) (by decide))]
  have hG := ty_gset (c := 66) (j := ii) (z := (-1)) hG (dp_fr f4)
  have hG := ty_gset (c := 67) (j := ii) (z := (-1)) hG (dp_fr f4)
  have hG := ty_gset (c := 68) (j := ii) (z := (-1)) hG (dp_fr f4)
  generalize eg20 : (gs (gs (gs g10 66 ii (-1)) 67 ii (-1)) 68 ii (-1)) = g19 at hG
  have hf21 : ∀ c j : Nat, c ≠ 66 → c ≠ 67 → c ≠ 68 → g19 c j = g10 c j := fun c j h66 h67 h68 => by rw [← eg20, gs_c _ _ _ _ h68, gs_c _ _ _ _ h67, gs_c _ _ _ _ h66]
  have v22 : g19 66 ii = (-1) := by rw [← eg20, gs_c _ _ _ _ (by decide), gs_c _ _ _ _ (by decide), gs_self]
  have hw23 : g19 66 = (pz_up (g 66) ii (-1)) := by rw [← eg20, gs_r _ _ _ (by decide), gs_r _ _ _ (by decide), pz_gs, (show g10 66 = g1 66 from funext fun j => hf12 66 j (by decide) (by decide) (by decide)), (show g1 66 = g 66 from funext fun j => hf3 66 j (by decide) (by decide) (by decide))]
  have v24 : g19 67 ii = (-1) := by rw [← eg20, gs_c _ _ _ _ (by decide), gs_self]
  have hw25 : g19 67 = (pz_up (g 67) ii (-1)) := by rw [← eg20, gs_r _ _ _ (by decide), pz_gs, gs_r _ _ _ (by decide), (show g10 67 = g1 67 from funext fun j => hf12 67 j (by decide) (by decide) (by decide)), (show g1 67 = g 67 from funext fun j => hf3 67 j (by decide) (by decide) (by decide))]
  have v26 : g19 68 ii = (-1) := by rw [← eg20, gs_self]
  have hw27 : g19 68 = (pz_up (g 68) ii (-1)) := by rw [← eg20, pz_gs, gs_r _ _ _ (by decide), gs_r _ _ _ (by decide), (show g10 68 = g1 68 from funext fun j => hf12 68 j (by decide) (by decide) (by decide)), (show g1 68 = g 68 from funext fun j => hf3 68 j (by decide) (by decide) (by decide))]
  have hl := lv_entry ([.ref h0, .int p1, .ref p2, .ref p3, .int p4]) (n := 5) (Nat.le_of_ble_eq_true rfl)
  rw [lg_entry_eq]
  generalize (lg_sl ([.ref h0, .int p1, .ref p2, .ref p3, .int p4]) ++ List.replicate (5 - (lg_sl ([.ref h0, .int p1, .ref p2, .ref p3, .int p4])).length) Slot.unset).toArray = ls at hl ⊢
  have hl : lv_has ls 5 [(0, .ref h0), (1, .int p1), (2, .ref p2), (3, .ref p3), (4, .int p4)] := hl
  refine lv_aload_n hx hb dX2_init_0 rfl (lv_at hl 0 rfl) ?_
  refine W.objInit hx hb hown (hA _ wd_3_17) (hA _ wd_1_28) (hA _ wd_1_29) rfl (by rw [hml]; exact hl.1) rfl dX2_init_1 (Nat.le_of_ble_eq_true rfl) (Nat.le_of_ble_eq_true rfl) ?_
  refine W.eq (g2 := F0 m 4 ls []) rfl ?_
  refine lv_aload_n hx hb dX2_init_4 rfl (lv_at hl 0 rfl) ?_
  refine ty_iconst hx hb (0) dX2_init_5 (by decide) (fun x28 h29 => ?_)
  refine rw_X2 hx hb hA hE hG hS hown hin rfl 4 (by decide) wd_3_27 rfl (ty := .int) (tyX2_ok 4 (by decide)) rfl rfl (Nat.le_of_ble_eq_true rfl) dX2_init_6 (fun H locs hG hS => ?_)
  replace hG : ty_ok (dC, dI) vwCl Γ (TP dA Γ g19) sz ((h0, .inr (2, [.int 0, .null, .null, .int 0, .int x28, .int 0, .int 0, .null, .null, .null])) :: X) H := hG
  refine lv_aload_n hx hb dX2_init_9 rfl (lv_at hl 0 rfl) ?_
  refine ty_iconst hx hb (0) dX2_init_10 (by decide) (fun x30 h31 => ?_)
  refine rw_X2 hx hb hA hE hG hS hown hin rfl 5 (by decide) wd_3_29 rfl (ty := .int) (tyX2_ok 5 (by decide)) rfl rfl (Nat.le_of_ble_eq_true rfl) dX2_init_11 (fun H locs hG hS => ?_)
  replace hG : ty_ok (dC, dI) vwCl Γ (TP dA Γ g19) sz ((h0, .inr (2, [.int 0, .null, .null, .int 0, .int x28, .int x30, .int 0, .null, .null, .null])) :: X) H := hG
  refine lv_aload_n hx hb dX2_init_14 rfl (lv_at hl 0 rfl) ?_
  refine ty_iconst hx hb (0) dX2_init_15 (by decide) (fun x32 h33 => ?_)
  refine rw_X2 hx hb hA hE hG hS hown hin rfl 6 (by decide) wd_3_32 rfl (ty := .int) (tyX2_ok 6 (by decide)) rfl rfl (Nat.le_of_ble_eq_true rfl) dX2_init_16 (fun H locs hG hS => ?_)
  replace hG : ty_ok (dC, dI) vwCl Γ (TP dA Γ g19) sz ((h0, .inr (2, [.int 0, .null, .null, .int 0, .int x28, .int x30, .int x32, .null, .null, .null])) :: X) H := hG
  refine lv_aload_n hx hb dX2_init_19 rfl (lv_at hl 0 rfl) ?_
  refine lv_null hx hb dX2_init_20 ?_
  refine rw_X2 hx hb hA hE hG hS hown hin rfl 7 (by decide) wd_3_35 rfl (ty := .object "WeekBank$Wish") (tyX2_ok 7 (by decide)) rfl rfl (Nat.le_of_ble_eq_true rfl) dX2_init_21 (fun H locs hG hS => ?_)
  replace hG : ty_ok (dC, dI) vwCl Γ (TP dA Γ g19) sz ((h0, .inr (2, [.int 0, .null, .null, .int 0, .int x28, .int x30, .int x32, .null, .null, .null])) :: X) H := hG
  refine lv_aload_n hx hb dX2_init_24 rfl (lv_at hl 0 rfl) ?_
  refine lv_null hx hb dX2_init_25 ?_
  refine rw_X2 hx hb hA hE hG hS hown hin rfl 8 (by decide) wd_3_38 rfl (ty := .object "WeekBank$Gift") (tyX2_ok 8 (by decide)) rfl rfl (Nat.le_of_ble_eq_true rfl) dX2_init_26 (fun H locs hG hS => ?_)
  replace hG : ty_ok (dC, dI) vwCl Γ (TP dA Γ g19) sz ((h0, .inr (2, [.int 0, .null, .null, .int 0, .int x28, .int x30, .int x32, .null, .null, .null])) :: X) H := hG
  refine lv_aload_n hx hb dX2_init_29 rfl (lv_at hl 0 rfl) ?_
  refine lv_null hx hb dX2_init_30 ?_
  refine rw_X2 hx hb hA hE hG hS hown hin rfl 9 (by decide) wd_3_41 rfl (ty := .object "WeekBank$Owner") (tyX2_ok 9 (by decide)) rfl rfl (Nat.le_of_ble_eq_true rfl) dX2_init_31 (fun H locs hG hS => ?_)
  replace hG : ty_ok (dC, dI) vwCl Γ (TP dA Γ g19) sz ((h0, .inr (2, [.int 0, .null, .null, .int 0, .int x28, .int x30, .int x32, .null, .null, .null])) :: X) H := hG
  refine lv_aload_n hx hb dX2_init_34 rfl (lv_at hl 0 rfl) ?_
  refine lv_iload_n hx hb dX2_init_35 rfl (lv_at hl 1 rfl) ?_
  refine rw_X2 hx hb hA hE hG hS hown hin rfl 0 (by decide) wd_3_18 rfl (ty := .int) (tyX2_ok 0 (by decide)) rfl rfl (Nat.le_of_ble_eq_true rfl) dX2_init_36 (fun H locs hG hS => ?_)
  replace hG : ty_ok (dC, dI) vwCl Γ (TP dA Γ g19) sz ((h0, .inr (2, [.int p1, .null, .null, .int 0, .int x28, .int x30, .int x32, .null, .null, .null])) :: X) H := hG
  refine lv_aload_n hx hb dX2_init_39 rfl (lv_at hl 0 rfl) ?_
  refine lv_aload_n hx hb dX2_init_40 rfl (lv_at hl 2 rfl) ?_
  refine rw_X2 hx hb hA hE hG hS hown hin rfl 1 (by decide) wd_3_20 rfl (ty := .object "WeekBank$Owner") (tyX2_ok 1 (by decide)) rfl rfl (Nat.le_of_ble_eq_true rfl) dX2_init_41 (fun H locs hG hS => ?_)
  replace hG : ty_ok (dC, dI) vwCl Γ (TP dA Γ g19) sz ((h0, .inr (2, [.int p1, .ref p2, .null, .int 0, .int x28, .int x30, .int x32, .null, .null, .null])) :: X) H := hG
  refine lv_aload_n hx hb dX2_init_44 rfl (lv_at hl 0 rfl) ?_
  refine lv_aload_n hx hb dX2_init_45 rfl (lv_at hl 3 rfl) ?_
  refine rw_X2 hx hb hA hE hG hS hown hin rfl 2 (by decide) wd_3_23 rfl (ty := .object "WeekBank$Flat") (tyX2_ok 2 (by decide)) rfl rfl (Nat.le_of_ble_eq_true rfl) dX2_init_46 (fun H locs hG hS => ?_)
  replace hG : ty_ok (dC, dI) vwCl Γ (TP dA Γ g19) sz ((h0, .inr (2, [.int p1, .ref p2, .ref p3, .int 0, .int x28, .int x30, .int x32, .null, .null, .null])) :: X) H := hG
  refine lv_aload_n hx hb dX2_init_49 rfl (lv_at hl 0 rfl) ?_
  refine lv_iload hx hb dX2_init_50 (lv_at hl 4 rfl) ?_
  refine rw_X2 hx hb hA hE hG hS hown hin rfl 3 (by decide) wd_3_25 rfl (ty := .int) (tyX2_ok 3 (by decide)) rfl rfl (Nat.le_of_ble_eq_true rfl) dX2_init_52 (fun H locs hG hS => ?_)
  replace hG : ty_ok (dC, dI) vwCl Γ (TP dA Γ g19) sz ((h0, .inr (2, [.int p1, .ref p2, .ref p3, .int p4, .int x28, .int x30, .int x32, .null, .null, .null])) :: X) H := hG
  have z_own : ty Γ h0 0 := (hG.2.2.2 _ List.mem_cons_self).2.1
  have hx34 : ext Γ (va_up Γ h0 (4, ii)) := ext.up z_own
  have hk35 : g19 60 ii = g10 60 ii := hf21 60 ii (by decide) (by decide) (by decide)
  have hk36 : g10 60 ii = g1 60 ii := hf12 60 ii (by decide) (by decide) (by decide)
  have hk37 : g19 61 ii = g10 61 ii := hf21 61 ii (by decide) (by decide) (by decide)
  have hk38 : g10 61 ii = g1 61 ii := hf12 61 ii (by decide) (by decide) (by decide)
  have hk39 : g19 62 ii = g10 62 ii := hf21 62 ii (by decide) (by decide) (by decide)
  have hk40 : g10 62 ii = g1 62 ii := hf12 62 ii (by decide) (by decide) (by decide)
  have hk41 : g19 63 ii = g10 63 ii := hf21 63 ii (by decide) (by decide) (by decide)
  have hk42 : g19 64 ii = g10 64 ii := hf21 64 ii (by decide) (by decide) (by decide)
  have hk43 : g19 65 ii = g10 65 ii := hf21 65 ii (by decide) (by decide) (by decide)
  have hG := tp_adopt (t := (4, ii)) hG (by rw [TP_4 rfl]; exact ⟨_, rfl, rfl, fun k hk => match k, hk with
        | 0, _ => ⟨_, rfl, by omega⟩
        | 1, _ => ⟨_, rfl, by show _ = (_, (g19 60 ii).toNat); rw [show g19 60 ii = ((j : Nat) : Int) by omega]; exact hx34.two ((rq_s t_p2).2 _ rfl).1 (by show (3 : Nat) ≠ 0; decide), by show 0 ≤ g19 60 ii; omega⟩
        | 2, _ => ⟨_, rfl, by show _ = (_, (g19 61 ii).toNat); rw [show g19 61 ii = ((f : Nat) : Int) by omega]; exact hx34.two ((rq_s t_p3).2 _ rfl).1 (by show (2 : Nat) ≠ 0; decide), by show 0 ≤ g19 61 ii; omega⟩
        | 3, _ => ⟨_, rfl, by show _ = g19 62 ii; omega⟩
        | 4, _ => ⟨_, rfl, by show _ = g19 63 ii; omega⟩
        | 5, _ => ⟨_, rfl, by show _ = g19 64 ii; omega⟩
        | 6, _ => ⟨_, rfl, by show _ = g19 65 ii; omega⟩
        | 7, _ => ⟨none, rfl, fun _ => (by show g19 66 ii = -1; omega), fun _ h => by cases h⟩
        | 8, _ => ⟨none, rfl, fun _ => (by show g19 67 ii = -1; omega), fun _ h => by cases h⟩
        | 9, _ => ⟨none, rfl, fun _ => (by show g19 68 ii = -1; omega), fun _ h => by cases h⟩
      ⟩)
  obtain ⟨Γ44, eΓ44⟩ : ∃ z, z = va_up Γ h0 (4, ii) := ⟨_, rfl⟩
  rw [← eΓ44] at hG
  have hx45 : ext Γ Γ44 := by rw [eΓ44]; exact ext.up z_own
  have hU : Un Γ44 := by rw [eΓ44]; exact Un.upF hU f4 rfl
  replace hNw : Nw [4] Γ Γ44 ii := by rw [eΓ44]; exact Nw.up hNw (by decide)
  have hX46 : ext Γ Γ44 := ext.trans ext.rf hx45
  replace t_p2 : Γ44 p2 = (3, j) := hx45.two t_p2 (by show (3 : Nat) ≠ 0; decide)
  replace t_p3 : Γ44 p3 = (2, f) := hx45.two t_p3 (by show (2 : Nat) ≠ 0; decide)
  have t_h0 : Γ44 h0 = (4, ii) := by rw [eΓ44, va_up_self]
  clear z_own
  exact W.vret hx hb hr (fun t ht hW => ⟨⟨(Γ44, g19), rfl, ⟨hX46, hU, hNw, t_h0, (fun c j h60 h61 h62 h63 h64 h65 h66 h67 h68 => by (try dsimp only); rw [hf21 c j h66 h67 h68, hf12 c j h63 h64 h65, hf3 c j h60 h61 h62]), (show g19 60 = pz_up (g 60) ii ((j : Nat) : Int) from (by rw [(show g19 60 = g10 60 from funext fun j => hf21 60 j (by decide) (by decide) (by decide)), (show g10 60 = g1 60 from funext fun j => hf12 60 j (by decide) (by decide) (by decide)), hw5])), (show g19 61 = pz_up (g 61) ii ((f : Nat) : Int) from (by rw [(show g19 61 = g10 61 from funext fun j => hf21 61 j (by decide) (by decide) (by decide)), (show g10 61 = g1 61 from funext fun j => hf12 61 j (by decide) (by decide) (by decide)), hw7])), (show g19 62 = pz_up (g 62) ii p4.toInt from (by rw [(show g19 62 = g10 62 from funext fun j => hf21 62 j (by decide) (by decide) (by decide)), (show g10 62 = g1 62 from funext fun j => hf12 62 j (by decide) (by decide) (by decide)), hw9])), (show g19 63 = pz_up (g 63) ii 0 from (by rw [(show g19 63 = g10 63 from funext fun j => hf21 63 j (by decide) (by decide) (by decide)), hw14])), (show g19 64 = pz_up (g 64) ii 0 from (by rw [(show g19 64 = g10 64 from funext fun j => hf21 64 j (by decide) (by decide) (by decide)), hw16])), (show g19 65 = pz_up (g 65) ii 0 from (by rw [(show g19 65 = g10 65 from funext fun j => hf21 65 j (by decide) (by decide) (by decide)), hw18])), (show g19 66 = pz_up (g 66) ii (-1) from (by rw [hw23])), (show g19 67 = pz_up (g 67) ii (-1) from (by rw [hw25])), (show g19 68 = pz_up (g 68) ii (-1) from (by rw [hw27]))⟩, ok2 ht hG⟩, hS.F ht⟩) hS.2.2 dX2_init_55

set_option maxHeartbeats 4000000 in
set_option maxRecDepth 100000 in
/-- WeekBank$Rules.earlyOf:  -/
theorem k_X6_earlyOf (l : Launch) (dC : Nat → ClassId) (dI : Nat → Nat → Nat) (dA : Nat → ClassId) (sz : Nat) (X : va_W) (Γ : ty_G) (hU : Un Γ) (g : gh) (h0 ii : Nat) (t_h0 : Γ h0 = (6, ii)) (p1 : Int32) : Met l yX6_earlyOf (.code yX6_earlyOf cX6_earlyOf 3 (Option.some Jvm.ClassFile.FieldType.int) :: AL) ({ frames := 1, cells := 0, slots := 0, locals := 13 }) (PCx dC dI dA sz X Γ g [.ref h0, .int p1]) (va_Qi (fun (r : Int32) (u : gh) => u = g ∧ (r.toInt = ea_f (g 82) (64 * ii) (ea_n p1.toInt))) (okb dC dI dA sz X Γ) (ty_A sz)) 0 0 (ty_A sz) := by
  refine Met.ofW (cc := cX6_earlyOf) (maxL := 3) (ret := (Option.some Jvm.ClassFile.FieldType.int)) (by decide) rfl ?_
  intro p e s m args below meth c s₁ B hml hv
  obtain ⟨rfl, hG, hE⟩ := hv
  have hx := B.exec
  have hb := B.bytes
  have hr := B.returns
  have hts := atoms_spec B.pre
  have hA : ∀ w ∈ AL, w.before _ s = true := fun w h => hts w (List.mem_cons_of_mem _ h)
  have hown : s.vm.findClass RX6 = some m.cls := findClass_of_methodNamed B.named
  have hlocks := B.notSynchronized
  have hS : va_S (ty_A sz) s.heap s.heap [] := va_S.rf
  have r1 := rgD p1
  have hl := lv_entry ([.ref h0, .int p1]) (n := 3) (Nat.le_of_ble_eq_true rfl)
  rw [lg_entry_eq]
  generalize (lg_sl ([.ref h0, .int p1]) ++ List.replicate (3 - (lg_sl ([.ref h0, .int p1])).length) Slot.unset).toArray = ls at hl ⊢
  have hl : lv_has ls 3 [(0, .ref h0), (1, .int p1)] := hl
  refine lv_iload_n hx hb dX6_earlyOf_0 rfl (lv_at hl 1 rfl) ?_
  refine ty_bipush hx hb (52) dX6_earlyOf_1 (by decide) (fun x1 h2 => ?_)
  refine va_mmin hx hb (hml.trans hl.1.symm) hown (hA _ wd_2_238) (hA _ wd_2_239) (hA _ wd_1_14) (hA _ wd_3_0) (Nat.le_of_ble_eq_true rfl) (Nat.le_of_ble_eq_true rfl) (Nat.zero_le _) (Nat.zero_le _) dX6_earlyOf_3 ?_
  refine lv_topi (fun x3 h4 => ?_)
  have h4 : x3.toInt = if x1.toInt < p1.toInt then x1.toInt else p1.toInt := by rw [h4]; simp only [ty_lt32]; split <;> rfl
  refine lv_istore_n (lv' := [(2, .int x3), (0, .ref h0), (1, .int p1)]) hx hb dX6_earlyOf_6 rfl hl (by decide) rfl (fun ls hl => ?_)
  have L_7 : ∀ (n : Nat) (v2_7 : Int32) (H : Heap) (locs : List Loc) (ls : Array Slot), (v2_7.toInt + 2147483649 : Int) < n → -2147483648 ≤ v2_7.toInt ∧ v2_7.toInt ≤ 52 → (ea_f (g 82) (64 * ii) (v2_7.toInt + 1).toNat = ea_f (g 82) (64 * ii) (ea_n p1.toInt)) → ty_ok (dC, dI) vwCl Γ (TP dA Γ g) sz X H → va_S (ty_A sz) s.heap H locs → lv_has ls 3 [(2, .int v2_7), (0, .ref h0), (1, .int p1)] → W p l e (headSpec (.code yX6_earlyOf cX6_earlyOf 3 (Option.some Jvm.ClassFile.FieldType.int) :: AL) ({ frames := 1, cells := 0, slots := 0, locals := 13 })).room s m ([.ref h0, .int p1] : List Value).toArray below meth c H locs 0 0 (MQ below (va_Qi (fun (r : Int32) (u : gh) => u = g ∧ (r.toInt = ea_f (g 82) (64 * ii) (ea_n p1.toInt))) (okb dC dI dA sz X Γ) (ty_A sz)) ([.ref h0, .int p1] : List Value).toArray s 0 0 (ty_A sz)) (F0 m 7 ls []) := by
    intro n
    induction n with
    | zero => intro v2_7 H locs ls hm hi0 hq0 hG hS hl; exfalso; omega
    | succ n ih_7 =>
      intro v2_7 H locs ls hm hi0 hq0 hG hS hl
      refine lv_iload_n hx hb dX6_earlyOf_7 rfl (lv_at hl 0 rfl) ?_
      refine ty_if_lt (tgt := 34) hx hb dX6_earlyOf_8 (by decide) (fun c6 => ?_) (fun c6 => ?_)
      · skip
        refine ty_iconst hx hb (0) dX6_earlyOf_34 (by decide) (fun x7 h8 => ?_)
        exact W.iret (v := x7) hx hb hr (fun t ht hW => ⟨⟨x7, g, rfl, ⟨rfl, (by rw [← hq0, show (v2_7.toInt + 1).toNat = 0 by omega]; show _ = (0 : Int); omega)⟩, ok1 ht hG⟩, hS.F ht⟩) hS.2.2 dX6_earlyOf_35
      · skip
        refine lv_aload_n hx hb dX6_earlyOf_11 rfl (lv_at hl 1 rfl) ?_
        refine get_X6_2 hx hb hA hown hE hG t_h0 wd_1_82 dX6_earlyOf_12 (fun b9 t_b9 => ?_)
        refine lv_iload_n hx hb dX6_earlyOf_15 rfl (lv_at hl 0 rfl) ?_
        refine ald_26 hx hb hE hG t_b9 (by omega) dX6_earlyOf_16 (fun j11 x10 h12 h13 => ?_)
        obtain rfl : j11 = v2_7.toInt.toNat := by omega
        refine ty_iconst hx hb (-1) dX6_earlyOf_17 (by decide) (fun x14 h15 => ?_)
        refine ty_icmp_eq (tgt := 28) hx hb dX6_earlyOf_18 (by decide) (fun c16 => ?_) (fun c16 => ?_)
        · skip
          obtain ⟨x17, h18⟩ : ∃ y : Int32, y = v2_7 + Int32.ofInt (-1) := ⟨_, rfl⟩
          try have h19 : x17.toInt = v2_7.toInt + (-1) := ty_inc h18 (by decide) (by omega) (by omega)
          refine lv_iinc (v := x17) (lv' := [(2, .int x17), (0, .ref h0), (1, .int p1)]) hx hb dX6_earlyOf_28 hl (k := 0) rfl h18.symm (by decide) rfl (fun ls hl => ?_)
          refine lv_goto (tgt := 7) hx hb dX6_earlyOf_31 (by decide) ?_
          exact ih_7 x17 _ _ ls (by omega) (by omega) (by rw [← hq0, show (v2_7.toInt + 1).toNat = v2_7.toInt.toNat + 1 by omega, ea_s (by omega), show (x17.toInt + 1).toNat = v2_7.toInt.toNat by omega]) hG hS (lv_sub hl [0, 1, 2] rfl)
        · skip
          refine lv_aload_n hx hb dX6_earlyOf_21 rfl (lv_at hl 1 rfl) ?_
          refine get_X6_2 hx hb hA hown hE hG t_h0 wd_1_82 dX6_earlyOf_22 (fun b20 t_b20 => ?_)
          refine lv_iload_n hx hb dX6_earlyOf_25 rfl (lv_at hl 0 rfl) ?_
          refine ald_26 hx hb hE hG t_b20 (by omega) dX6_earlyOf_26 (fun j22 x21 h23 h24 => ?_)
          obtain rfl : j22 = v2_7.toInt.toNat := by omega
          exact W.iret (v := x21) hx hb hr (fun t ht hW => ⟨⟨x21, g, rfl, ⟨rfl, (by rw [← hq0, show (v2_7.toInt + 1).toNat = v2_7.toInt.toNat + 1 by omega, ea_t (by omega)]; omega)⟩, ok1 ht hG⟩, hS.F ht⟩) hS.2.2 dX6_earlyOf_27
  exact L_7 ((x3.toInt + 2147483649) + 1).toNat x3 _ _ ls (by omega) (by omega) (congrArg (ea_f (g 82) (64 * ii)) (show (x3.toInt + 1).toNat = ea_n p1.toInt by unfold ea_n; omega)) hG hS (lv_sub hl [0, 1, 2] rfl)

set_option maxHeartbeats 4000000 in
set_option maxRecDepth 100000 in
/-- WeekBank$Rules.worthOf:  -/
theorem k_X6_worthOf (l : Launch) (dC : Nat → ClassId) (dI : Nat → Nat → Nat) (dA : Nat → ClassId) (sz : Nat) (X : va_W) (Γ : ty_G) (hU : Un Γ) (g : gh) (h0 ii : Nat) (t_h0 : Γ h0 = (6, ii)) (p1 : Int32) (p2 : Int32) (p3 : Int32) : Met l yX6_worthOf (.code yX6_worthOf cX6_worthOf 4 (Option.some Jvm.ClassFile.FieldType.int) :: AL) ({ frames := 2, cells := 0, slots := 0, locals := 35 }) (PCx dC dI dA sz X Γ g [.ref h0, .int p1, .int p2, .int p3]) (va_Qi (fun (r : Int32) (u : gh) => u = g ∧ (r.toInt = wo_f (g 80) (g 81) (g 82) (64 * ii) p1.toInt p2.toInt p3.toInt)) (okb dC dI dA sz X Γ) (ty_A sz)) 0 0 (ty_A sz) := by
  refine Met.ofW (cc := cX6_worthOf) (maxL := 4) (ret := (Option.some Jvm.ClassFile.FieldType.int)) (by decide) rfl ?_
  intro p e s m args below meth c s₁ B hml hv
  obtain ⟨rfl, hG, hE⟩ := hv
  have hx := B.exec
  have hb := B.bytes
  have hr := B.returns
  have hts := atoms_spec B.pre
  have hA : ∀ w ∈ AL, w.before _ s = true := fun w h => hts w (List.mem_cons_of_mem _ h)
  have hown : s.vm.findClass RX6 = some m.cls := findClass_of_methodNamed B.named
  have hlocks := B.notSynchronized
  have hS : va_S (ty_A sz) s.heap s.heap [] := va_S.rf
  have hl := lv_entry ([.ref h0, .int p1, .int p2, .int p3]) (n := 4) (Nat.le_of_ble_eq_true rfl)
  rw [lg_entry_eq]
  generalize (lg_sl ([.ref h0, .int p1, .int p2, .int p3]) ++ List.replicate (4 - (lg_sl ([.ref h0, .int p1, .int p2, .int p3])).length) Slot.unset).toArray = ls at hl ⊢
  have hl : lv_has ls 4 [(0, .ref h0), (1, .int p1), (2, .int p2), (3, .int p3)] := hl
  refine lv_iload_n hx hb dX6_worthOf_0 rfl (lv_at hl 1 rfl) ?_
  refine cI (va_runSN (As := [.int p1]) (rest := []) ⟨hx, hb, hml, hown, hA⟩ (k_X8_isSize l dC dI dA sz X Γ hU g p1   ) ⟨va_cnB 1 hA (al_A wd_1_203) rfl rfl rfl hE.2.1.2.2.2.2.1 (hA _ wd_1_1) (by decide +kernel) ⟨Nat.le_of_ble_eq_true rfl, Nat.le_of_ble_eq_true rfl⟩, hA _ wd_1_202, trivial⟩ ⟨bl, fun U hU9 hW9 => ⟨rfl, by rw [hU9]; exact hG, hE.go hS hU9 hW9⟩⟩ rfl rfl hl.1 rfl (lv_room (Nat.le_of_ble_eq_true rfl)) dX6_worthOf_1 ⟨Nat.zero_le _, Nat.zero_le _⟩) hS (fun x3 u1 H locs w2 hG hS => ?_)
  obtain ⟨eu4, w2⟩ := w2
  rw [eu4] at hG
  rcases pz_or w2 with w2 | w2
  · skip
    refine ty_if_eq (tgt := 14) hx hb dX6_worthOf_4 (by decide) (fun c5 => ?_) (fun c5 => ?_)
    · exfalso; omega
    · skip
      refine lv_iload_n hx hb dX6_worthOf_7 rfl (lv_at hl 2 rfl) ?_
      refine cI (va_runSN (As := [.int p2]) (rest := []) ⟨hx, hb, hml, hown, hA⟩ (k_X8_isWeek l dC dI dA sz X Γ hU g p2   ) ⟨va_cnB 1 hA (al_A wd_2_59) rfl rfl rfl hE.2.1.2.2.2.2.2.1 (hA _ wd_1_1) (by decide +kernel) ⟨Nat.le_of_ble_eq_true rfl, Nat.le_of_ble_eq_true rfl⟩, hA _ wd_2_58, trivial⟩ ⟨bl, fun U hU9 hW9 => ⟨rfl, by rw [hU9]; exact hG, hE.go hS hU9 hW9⟩⟩ rfl rfl hl.1 rfl (lv_room (Nat.le_of_ble_eq_true rfl)) dX6_worthOf_8 ⟨Nat.zero_le _, Nat.zero_le _⟩) hS (fun x8 u6 H locs w7 hG hS => ?_)
      obtain ⟨eu9, w7⟩ := w7
      rw [eu9] at hG
      rcases pz_or w7 with w7 | w7
      · skip
        refine ty_if_ne (tgt := 16) hx hb dX6_worthOf_11 (by decide) (fun c10 => ?_) (fun c10 => ?_)
        · skip
          refine lv_aload_n hx hb dX6_worthOf_16 rfl (lv_at hl 0 rfl) ?_
          refine get_X6_0 hx hb hA hown hE hG t_h0 wd_1_80 dX6_worthOf_17 (fun b11 t_b11 => ?_)
          refine lv_iload_n hx hb dX6_worthOf_20 rfl (lv_at hl 2 rfl) ?_
          refine ald_16 hx hb hE hG t_b11 (by omega) dX6_worthOf_21 (fun j13 x12 h14 h15 => ?_)
          obtain rfl : j13 = p2.toInt.toNat := by omega
          refine lv_aload_n hx hb dX6_worthOf_22 rfl (lv_at hl 0 rfl) ?_
          refine get_X6_1 hx hb hA hown hE hG t_h0 wd_1_81 dX6_worthOf_23 (fun b16 t_b16 => ?_)
          refine lv_iload_n hx hb dX6_worthOf_26 rfl (lv_at hl 1 rfl) ?_
          refine ald_17 hx hb hE hG t_b16 (by omega) dX6_worthOf_27 (fun j18 x17 h19 h20 => ?_)
          obtain rfl : j18 = p1.toInt.toNat := by omega
          refine ty_iadd hx hb dX6_worthOf_28 (fun x21 h22 => ?_)
          have h23 : x21.toInt = wa (g 80 (64 * ii + p2.toInt.toNat)) (g 81 (64 * ii + p1.toInt.toNat)) := by rw [ty_wa h22, h15, h20]
          refine lv_aload_n hx hb dX6_worthOf_29 rfl (lv_at hl 0 rfl) ?_
          refine lv_iload_n hx hb dX6_worthOf_30 rfl (lv_at hl 3 rfl) ?_
          refine cI (va_runV (C := RX6) (As := [.int p3]) (rest := [.int x21]) ⟨hx, hb, hml, hown, hA⟩ (k_X6_earlyOf l dC dI dA sz X Γ hU g h0 ii t_h0 p3   ) ⟨callB_of 1 hA (al_A wd_2_237) rfl rfl rfl (hA _ wd_1_3) (hA _ wd_2_234) (by decide +kernel) ⟨Nat.le_of_ble_eq_true rfl, Nat.le_of_ble_eq_true rfl⟩, hA _ wd_2_236, hA _ ws_14⟩ ⟨bl, recv_X6 hE hG (by rw [t_h0]), fun U hU9 hW9 => ⟨rfl, by rw [hU9]; exact hG, hE.go hS hU9 hW9⟩⟩ rfl rfl hl.1 rfl (lv_room (Nat.le_of_ble_eq_true rfl)) dX6_worthOf_31 ⟨Nat.zero_le _, Nat.zero_le _⟩) hS (fun x26 u24 H locs w25 hG hS => ?_)
          obtain ⟨eu28, hq27⟩ := w25
          rw [eu28] at hG
          refine ty_iadd hx hb dX6_worthOf_34 (fun x29 h30 => ?_)
          have h31 : x29.toInt = wa (wa (g 80 (64 * ii + p2.toInt.toNat)) (g 81 (64 * ii + p1.toInt.toNat))) (x26.toInt) := by rw [ty_wa h30, h23]
          exact W.iret (v := x29) hx hb hr (fun t ht hW => ⟨⟨x29, g, rfl, ⟨rfl, (by unfold wo_f; rw [if_pos (by omega), h31, hq27])⟩, ok1 ht hG⟩, hS.F ht⟩) hS.2.2 dX6_worthOf_35
        · exfalso; omega
      · skip
        refine ty_if_ne (tgt := 16) hx hb dX6_worthOf_11 (by decide) (fun c32 => ?_) (fun c32 => ?_)
        · exfalso; omega
        · skip
          refine ty_iconst hx hb (0) dX6_worthOf_14 (by decide) (fun x33 h34 => ?_)
          exact W.iret (v := x33) hx hb hr (fun t ht hW => ⟨⟨x33, g, rfl, ⟨rfl, (by unfold wo_f; rw [if_neg (by omega)]; omega)⟩, ok1 ht hG⟩, hS.F ht⟩) hS.2.2 dX6_worthOf_15
  · skip
    refine ty_if_eq (tgt := 14) hx hb dX6_worthOf_4 (by decide) (fun c35 => ?_) (fun c35 => ?_)
    · skip
      refine ty_iconst hx hb (0) dX6_worthOf_14 (by decide) (fun x36 h37 => ?_)
      exact W.iret (v := x36) hx hb hr (fun t ht hW => ⟨⟨x36, g, rfl, ⟨rfl, (by unfold wo_f; rw [if_neg (by omega)]; omega)⟩, ok1 ht hG⟩, hS.F ht⟩) hS.2.2 dX6_worthOf_15
    · exfalso; omega

set_option maxHeartbeats 4000000 in
set_option maxRecDepth 100000 in
/-- WeekBank$Rules.setSeason:  -/
theorem k_X6_setSeason (l : Launch) (dC : Nat → ClassId) (dI : Nat → Nat → Nat) (dA : Nat → ClassId) (sz : Nat) (X : va_W) (Γ : ty_G) (hU : Un Γ) (g : gh) (h0 ii : Nat) (t_h0 : Γ h0 = (6, ii)) (p1 : Int32) (p2 : Int32) (p3 : Int32) : Met l yX6_setSeason (.code yX6_setSeason cX6_setSeason 5 (Option.none : Option Jvm.ClassFile.FieldType) :: AL) ({ frames := 1, cells := 0, slots := 0, locals := 13 }) (PCx dC dI dA sz X Γ g [.ref h0, .int p1, .int p2, .int p3]) (va_Qv (fun (u : gh) => (∀ c j : Nat, c ≠ 80 → u c j = g c j) ∧ (u 80 = sn_f (g 80) (64 * ii) p1.toInt p2.toInt p3.toInt)) (okb dC dI dA sz X Γ) (ty_A sz)) 0 0 (ty_A sz) := by
  refine Met.ofW (cc := cX6_setSeason) (maxL := 5) (ret := (Option.none : Option Jvm.ClassFile.FieldType)) (by decide) rfl ?_
  intro p e s m args below meth c s₁ B hml hv
  obtain ⟨rfl, hG, hE⟩ := hv
  have hx := B.exec
  have hb := B.bytes
  have hr := B.returns
  have hts := atoms_spec B.pre
  have hA : ∀ w ∈ AL, w.before _ s = true := fun w h => hts w (List.mem_cons_of_mem _ h)
  have hown : s.vm.findClass RX6 = some m.cls := findClass_of_methodNamed B.named
  have hlocks := B.notSynchronized
  have hS : va_S (ty_A sz) s.heap s.heap [] := va_S.rf
  have r1 := rgD p1
  have hl := lv_entry ([.ref h0, .int p1, .int p2, .int p3]) (n := 5) (Nat.le_of_ble_eq_true rfl)
  rw [lg_entry_eq]
  generalize (lg_sl ([.ref h0, .int p1, .int p2, .int p3]) ++ List.replicate (5 - (lg_sl ([.ref h0, .int p1, .int p2, .int p3])).length) Slot.unset).toArray = ls at hl ⊢
  have hl : lv_has ls 5 [(0, .ref h0), (1, .int p1), (2, .int p2), (3, .int p3)] := hl
  refine lv_iload_n hx hb dX6_setSeason_0 rfl (lv_at hl 1 rfl) ?_
  refine ty_iconst hx hb (0) dX6_setSeason_1 (by decide) (fun x1 h2 => ?_)
  refine va_mmax hx hb (hml.trans hl.1.symm) hown (hA _ wd_2_198) (hA _ wd_2_199) (hA _ wd_1_14) (hA _ wd_2_200) (Nat.le_of_ble_eq_true rfl) (Nat.le_of_ble_eq_true rfl) (Nat.zero_le _) (Nat.zero_le _) dX6_setSeason_2 ?_
  refine lv_topi (fun x3 h4 => ?_)
  have h4 : x3.toInt = if p1.toInt < x1.toInt then x1.toInt else p1.toInt := by rw [h4]; simp only [ty_lt32]; split <;> rfl
  refine lv_istore (lv' := [(4, .int x3), (0, .ref h0), (1, .int p1), (2, .int p2), (3, .int p3)]) hx hb dX6_setSeason_5 hl (by decide) rfl (fun ls hl => ?_)
  have L_7 : ∀ (n : Nat) (v4_7 : Int32) (g5 : gh) (H : Heap) (locs : List Loc) (ls : Array Slot), (2147483648 - v4_7.toInt : Int) < n → 0 ≤ v4_7.toInt ∧ v4_7.toInt ≤ 2147483647 → mx0 p1.toInt ≤ v4_7.toInt ∧ (v4_7.toInt = mx0 p1.toInt ∨ (v4_7.toInt ≤ p2.toInt + 1 ∧ v4_7.toInt ≤ 53)) → (∀ c j : Nat, c ≠ 80 → g5 c j = g c j) → (g5 80 = fz (g 80) (64 * ii + (mx0 p1.toInt).toNat) p3.toInt (v4_7.toInt - mx0 p1.toInt).toNat) → ty_ok (dC, dI) vwCl Γ (TP dA Γ g5) sz X H → va_S (ty_A sz) s.heap H locs → lv_has ls 5 [(4, .int v4_7), (0, .ref h0), (1, .int p1), (2, .int p2), (3, .int p3)] → W p l e (headSpec (.code yX6_setSeason cX6_setSeason 5 (Option.none : Option Jvm.ClassFile.FieldType) :: AL) ({ frames := 1, cells := 0, slots := 0, locals := 13 })).room s m ([.ref h0, .int p1, .int p2, .int p3] : List Value).toArray below meth c H locs 0 0 (MQ below (va_Qv (fun (u : gh) => (∀ c j : Nat, c ≠ 80 → u c j = g c j) ∧ (u 80 = sn_f (g 80) (64 * ii) p1.toInt p2.toInt p3.toInt)) (okb dC dI dA sz X Γ) (ty_A sz)) ([.ref h0, .int p1, .int p2, .int p3] : List Value).toArray s 0 0 (ty_A sz)) (F0 m 7 ls []) := by
    intro n
    induction n with
    | zero => intro v4_7 g5 H locs ls hm hi0 hi1 hf6 hq0 hG hS hl; exfalso; omega
    | succ n ih_7 =>
      intro v4_7 g5 H locs ls hm hi0 hi1 hf6 hq0 hG hS hl
      have hmx0 : 0 ≤ mx0 p1.toInt := by unfold mx0; omega
      refine lv_iload hx hb dX6_setSeason_7 (lv_at hl 0 rfl) ?_
      refine lv_iload_n hx hb dX6_setSeason_9 rfl (lv_at hl 3 rfl) ?_
      refine ty_icmp_gt (tgt := 34) hx hb dX6_setSeason_10 (by decide) (fun c7 => ?_) (fun c7 => ?_)
      · skip
        exact W.vret hx hb hr (fun t ht hW => ⟨⟨g5, rfl, ⟨(fun c j h80 => by rw [hf6 c j h80]), (by rw [hq0]; unfold sn_f; rw [show (v4_7.toInt - mx0 p1.toInt).toNat = sn_m p1.toInt p2.toInt by unfold sn_m; unfold mx0 at hi1 ⊢; omega])⟩, ok1 ht hG⟩, hS.F ht⟩) hS.2.2 dX6_setSeason_34
      · skip
        refine lv_iload hx hb dX6_setSeason_13 (lv_at hl 0 rfl) ?_
        refine ty_bipush hx hb (53) dX6_setSeason_15 (by decide) (fun x8 h9 => ?_)
        refine ty_icmp_ge (tgt := 34) hx hb dX6_setSeason_17 (by decide) (fun c10 => ?_) (fun c10 => ?_)
        · skip
          exact W.vret hx hb hr (fun t ht hW => ⟨⟨g5, rfl, ⟨(fun c j h80 => by rw [hf6 c j h80]), (by rw [hq0]; unfold sn_f; rw [show (v4_7.toInt - mx0 p1.toInt).toNat = sn_m p1.toInt p2.toInt by unfold sn_m; unfold mx0 at hi1 ⊢; omega])⟩, ok1 ht hG⟩, hS.F ht⟩) hS.2.2 dX6_setSeason_34
        · skip
          refine lv_aload_n hx hb dX6_setSeason_20 rfl (lv_at hl 1 rfl) ?_
          refine get_X6_0 hx hb hA hown hE hG t_h0 wd_1_80 dX6_setSeason_21 (fun b11 t_b11 => ?_)
          refine lv_iload hx hb dX6_setSeason_24 (lv_at hl 0 rfl) ?_
          refine lv_iload_n hx hb dX6_setSeason_26 rfl (lv_at hl 4 rfl) ?_
          refine ast_16 hx hb hE hG hS hU t_b11 (by omega) dX6_setSeason_27 (fun H locs hG hS => ?_)
          obtain ⟨x12, h13⟩ : ∃ y : Int32, y = v4_7 + Int32.ofInt (1) := ⟨_, rfl⟩
          try have h14 : x12.toInt = v4_7.toInt + (1) := ty_inc h13 (by decide) (by omega) (by omega)
          refine lv_iinc (v := x12) (lv' := [(4, .int x12), (0, .ref h0), (1, .int p1), (2, .int p2), (3, .int p3)]) hx hb dX6_setSeason_28 hl (k := 0) rfl h13.symm (by decide) rfl (fun ls hl => ?_)
          refine lv_goto (tgt := 7) hx hb dX6_setSeason_31 (by decide) ?_
          exact ih_7 x12 (gs g5 80 (64 * ii + v4_7.toInt.toNat) p3.toInt) _ _ ls (by omega) (by omega) (by omega) (fun c j h80 => by rw [gs_c _ _ _ _ h80, hf6 c j h80]) (by rw [pz_gs]; exact fz_s hq0 (by omega) (by omega) rfl) hG hS (lv_sub hl [0, 1, 2, 3, 4] rfl)
  have hmx : x3.toInt = mx0 p1.toInt := by unfold mx0; omega
  exact L_7 ((2147483648 - x3.toInt) + 1).toNat x3 g _ _ ls (by omega) (by omega) (by omega) (fun c j _ => rfl) (fz_0 (by unfold mx0; omega)) hG hS (lv_sub hl [0, 1, 2, 3, 4] rfl)

set_option maxHeartbeats 4000000 in
set_option maxRecDepth 100000 in
/-- WeekBank$Rules.setSize:  -/
theorem k_X6_setSize (l : Launch) (dC : Nat → ClassId) (dI : Nat → Nat → Nat) (dA : Nat → ClassId) (sz : Nat) (X : va_W) (Γ : ty_G) (hU : Un Γ) (g : gh) (h0 ii : Nat) (t_h0 : Γ h0 = (6, ii)) (p1 : Int32) (p2 : Int32) : Met l yX6_setSize (.code yX6_setSize cX6_setSize 3 (Option.none : Option Jvm.ClassFile.FieldType) :: AL) ({ frames := 1, cells := 0, slots := 0, locals := 20 }) (PCx dC dI dA sz X Γ g [.ref h0, .int p1, .int p2]) (va_Qv (fun (u : gh) => (∀ c j : Nat, c ≠ 81 → u c j = g c j) ∧ (u 81 = sz_f (g 81) (64 * ii) p1.toInt p2.toInt)) (okb dC dI dA sz X Γ) (ty_A sz)) 0 0 (ty_A sz) := by
  refine Met.ofW (cc := cX6_setSize) (maxL := 3) (ret := (Option.none : Option Jvm.ClassFile.FieldType)) (by decide) rfl ?_
  intro p e s m args below meth c s₁ B hml hv
  obtain ⟨rfl, hG, hE⟩ := hv
  have hx := B.exec
  have hb := B.bytes
  have hr := B.returns
  have hts := atoms_spec B.pre
  have hA : ∀ w ∈ AL, w.before _ s = true := fun w h => hts w (List.mem_cons_of_mem _ h)
  have hown : s.vm.findClass RX6 = some m.cls := findClass_of_methodNamed B.named
  have hlocks := B.notSynchronized
  have hS : va_S (ty_A sz) s.heap s.heap [] := va_S.rf
  have hl := lv_entry ([.ref h0, .int p1, .int p2]) (n := 3) (Nat.le_of_ble_eq_true rfl)
  rw [lg_entry_eq]
  generalize (lg_sl ([.ref h0, .int p1, .int p2]) ++ List.replicate (3 - (lg_sl ([.ref h0, .int p1, .int p2])).length) Slot.unset).toArray = ls at hl ⊢
  have hl : lv_has ls 3 [(0, .ref h0), (1, .int p1), (2, .int p2)] := hl
  refine lv_iload_n hx hb dX6_setSize_0 rfl (lv_at hl 1 rfl) ?_
  refine cI (va_runSN (As := [.int p1]) (rest := []) ⟨hx, hb, hml, hown, hA⟩ (k_X8_isSize l dC dI dA sz X Γ hU g p1   ) ⟨va_cnB 1 hA (al_A wd_1_203) rfl rfl rfl hE.2.1.2.2.2.2.1 (hA _ wd_1_1) (by decide +kernel) ⟨Nat.le_of_ble_eq_true rfl, Nat.le_of_ble_eq_true rfl⟩, hA _ wd_1_202, trivial⟩ ⟨bl, fun U hU9 hW9 => ⟨rfl, by rw [hU9]; exact hG, hE.go hS hU9 hW9⟩⟩ rfl rfl hl.1 rfl (lv_room (Nat.le_of_ble_eq_true rfl)) dX6_setSize_1 ⟨Nat.zero_le _, Nat.zero_le _⟩) hS (fun x3 u1 H locs w2 hG hS => ?_)
  obtain ⟨eu4, w2⟩ := w2
  rw [eu4] at hG
  rcases pz_or w2 with w2 | w2
  · skip
    refine ty_if_eq (tgt := 14) hx hb dX6_setSize_4 (by decide) (fun c5 => ?_) (fun c5 => ?_)
    · exfalso; omega
    · skip
      refine lv_aload_n hx hb dX6_setSize_7 rfl (lv_at hl 0 rfl) ?_
      refine get_X6_1 hx hb hA hown hE hG t_h0 wd_1_81 dX6_setSize_8 (fun b6 t_b6 => ?_)
      refine lv_iload_n hx hb dX6_setSize_11 rfl (lv_at hl 1 rfl) ?_
      refine lv_iload_n hx hb dX6_setSize_12 rfl (lv_at hl 2 rfl) ?_
      refine ast_17 hx hb hE hG hS hU t_b6 (by omega) dX6_setSize_13 (fun H locs hG hS => ?_)
      exact W.vret hx hb hr (fun t ht hW => ⟨⟨(gs g 81 (64 * ii + p1.toInt.toNat) p2.toInt), rfl, ⟨(fun c j h81 => by rw [gs_c _ _ _ _ h81]), (by rw [pz_gs]; unfold sz_f; rw [if_pos (by omega)])⟩, ok1 ht hG⟩, hS.F ht⟩) hS.2.2 dX6_setSize_14
  · skip
    refine ty_if_eq (tgt := 14) hx hb dX6_setSize_4 (by decide) (fun c7 => ?_) (fun c7 => ?_)
    · skip
      exact W.vret hx hb hr (fun t ht hW => ⟨⟨g, rfl, ⟨(fun c j h81 => by rfl), (by unfold sz_f; rw [if_neg (by omega)])⟩, ok1 ht hG⟩, hS.F ht⟩) hS.2.2 dX6_setSize_14
    · exfalso; omega

set_option maxHeartbeats 4000000 in
set_option maxRecDepth 100000 in
/-- WeekBank$Rules.setEarly:  -/
theorem k_X6_setEarly (l : Launch) (dC : Nat → ClassId) (dI : Nat → Nat → Nat) (dA : Nat → ClassId) (sz : Nat) (X : va_W) (Γ : ty_G) (hU : Un Γ) (g : gh) (h0 ii : Nat) (t_h0 : Γ h0 = (6, ii)) (p1 : Int32) (p2 : Int32) : Met l yX6_setEarly (.code yX6_setEarly cX6_setEarly 3 (Option.none : Option Jvm.ClassFile.FieldType) :: AL) ({ frames := 1, cells := 0, slots := 0, locals := 20 }) (PCx dC dI dA sz X Γ g [.ref h0, .int p1, .int p2]) (va_Qv (fun (u : gh) => (∀ c j : Nat, c ≠ 82 → u c j = g c j) ∧ (u 82 = se_f (g 82) (64 * ii) p1.toInt p2.toInt)) (okb dC dI dA sz X Γ) (ty_A sz)) 0 0 (ty_A sz) := by
  refine Met.ofW (cc := cX6_setEarly) (maxL := 3) (ret := (Option.none : Option Jvm.ClassFile.FieldType)) (by decide) rfl ?_
  intro p e s m args below meth c s₁ B hml hv
  obtain ⟨rfl, hG, hE⟩ := hv
  have hx := B.exec
  have hb := B.bytes
  have hr := B.returns
  have hts := atoms_spec B.pre
  have hA : ∀ w ∈ AL, w.before _ s = true := fun w h => hts w (List.mem_cons_of_mem _ h)
  have hown : s.vm.findClass RX6 = some m.cls := findClass_of_methodNamed B.named
  have hlocks := B.notSynchronized
  have hS : va_S (ty_A sz) s.heap s.heap [] := va_S.rf
  have hl := lv_entry ([.ref h0, .int p1, .int p2]) (n := 3) (Nat.le_of_ble_eq_true rfl)
  rw [lg_entry_eq]
  generalize (lg_sl ([.ref h0, .int p1, .int p2]) ++ List.replicate (3 - (lg_sl ([.ref h0, .int p1, .int p2])).length) Slot.unset).toArray = ls at hl ⊢
  have hl : lv_has ls 3 [(0, .ref h0), (1, .int p1), (2, .int p2)] := hl
  refine lv_iload_n hx hb dX6_setEarly_0 rfl (lv_at hl 1 rfl) ?_
  refine cI (va_runSN (As := [.int p1]) (rest := []) ⟨hx, hb, hml, hown, hA⟩ (k_X8_isWeek l dC dI dA sz X Γ hU g p1   ) ⟨va_cnB 1 hA (al_A wd_2_59) rfl rfl rfl hE.2.1.2.2.2.2.2.1 (hA _ wd_1_1) (by decide +kernel) ⟨Nat.le_of_ble_eq_true rfl, Nat.le_of_ble_eq_true rfl⟩, hA _ wd_2_58, trivial⟩ ⟨bl, fun U hU9 hW9 => ⟨rfl, by rw [hU9]; exact hG, hE.go hS hU9 hW9⟩⟩ rfl rfl hl.1 rfl (lv_room (Nat.le_of_ble_eq_true rfl)) dX6_setEarly_1 ⟨Nat.zero_le _, Nat.zero_le _⟩) hS (fun x3 u1 H locs w2 hG hS => ?_)
  obtain ⟨eu4, w2⟩ := w2
  rw [eu4] at hG
  rcases pz_or w2 with w2 | w2
  · skip
    refine ty_if_eq (tgt := 14) hx hb dX6_setEarly_4 (by decide) (fun c5 => ?_) (fun c5 => ?_)
    · exfalso; omega
    · skip
      refine lv_aload_n hx hb dX6_setEarly_7 rfl (lv_at hl 0 rfl) ?_
      refine get_X6_2 hx hb hA hown hE hG t_h0 wd_1_82 dX6_setEarly_8 (fun b6 t_b6 => ?_)
      refine lv_iload_n hx hb dX6_setEarly_11 rfl (lv_at hl 1 rfl) ?_
      refine lv_iload_n hx hb dX6_setEarly_12 rfl (lv_at hl 2 rfl) ?_
      refine ast_26 hx hb hE hG hS hU t_b6 (by omega) dX6_setEarly_13 (fun H locs hG hS => ?_)
      exact W.vret hx hb hr (fun t ht hW => ⟨⟨(gs g 82 (64 * ii + p1.toInt.toNat) p2.toInt), rfl, ⟨(fun c j h82 => by rw [gs_c _ _ _ _ h82]), (by rw [pz_gs]; unfold se_f; rw [if_pos (by omega)])⟩, ok1 ht hG⟩, hS.F ht⟩) hS.2.2 dX6_setEarly_14
  · skip
    refine ty_if_eq (tgt := 14) hx hb dX6_setEarly_4 (by decide) (fun c7 => ?_) (fun c7 => ?_)
    · skip
      exact W.vret hx hb hr (fun t ht hW => ⟨⟨g, rfl, ⟨(fun c j h82 => by rfl), (by unfold se_f; rw [if_neg (by omega)])⟩, ok1 ht hG⟩, hS.F ht⟩) hS.2.2 dX6_setEarly_14
    · exfalso; omega
