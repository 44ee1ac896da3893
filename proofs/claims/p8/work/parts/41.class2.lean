set_option maxHeartbeats 4000000 in
set_option maxRecDepth 100000 in
/-- WeekBank.own:  -/
theorem k_X8_own (l : Launch) (dC : Nat → ClassId) (dI : Nat → Nat → Nat) (dA : Nat → ClassId) (sz : Nat) (X : va_W) (Γ : ty_G) (hU : Un Γ) (g : gh) (h0 : Nat) (t_h0 : ty Γ h0 1) (p1 : Int32) (p2 : Int32) (p3 : Int32) (g1 : g 1 0 = g 33 0 ∧ 0 ≤ g 1 0 ∧ g 1 0 ≤ 6) (g2 : g 2 0 = g 34 0 ∧ 0 ≤ g 2 0 ∧ g 2 0 ≤ 10) : Met l yX8_own (.code yX8_own cX8_own 7 (Option.some Jvm.ClassFile.FieldType.boolean) :: AL) ({ frames := 2, cells := 0, slots := 0, locals := 43 }) (PCx dC dI dA sz X Γ g [.ref h0, .int p1, .int p2, .int p3]) (va_Qi (fun (r : Int32) (u : gh) => u = g) (okb dC dI dA sz X Γ) (ty_A sz)) 0 0 (ty_A sz) := by
  refine Met.ofW (cc := cX8_own) (maxL := 7) (ret := (Option.some Jvm.ClassFile.FieldType.boolean)) (by decide) rfl ?_
  intro p e s m args below meth c s₁ B hml hv
  obtain ⟨rfl, hG, hE⟩ := hv
  have hx := B.exec
  have hb := B.bytes
  have hr := B.returns
  have hts := atoms_spec B.pre
  have hA : ∀ w ∈ AL, w.before _ s = true := fun w h => hts w (List.mem_cons_of_mem _ h)
  have hown : s.vm.findClass RX8 = some m.cls := findClass_of_methodNamed B.named
  have hlocks := B.notSynchronized
  have hS : va_S (ty_A sz) s.heap s.heap [] := va_S.rf
  have hl := lv_entry ([.ref h0, .int p1, .int p2, .int p3]) (n := 7) (Nat.le_of_ble_eq_true rfl)
  rw [lg_entry_eq]
  generalize (lg_sl ([.ref h0, .int p1, .int p2, .int p3]) ++ List.replicate (7 - (lg_sl ([.ref h0, .int p1, .int p2, .int p3])).length) Slot.unset).toArray = ls at hl ⊢
  have hl : lv_has ls 7 [(0, .ref h0), (1, .int p1), (2, .int p2), (3, .int p3)] := hl
  refine lv_aload_n hx hb dX8_own_0 rfl (lv_at hl 0 rfl) ?_
  refine lv_iload_n hx hb dX8_own_1 rfl (lv_at hl 1 rfl) ?_
  refine cQ (va_runV (C := RX8) (As := [.int p1]) (rest := []) ⟨hx, hb, hml, hown, hA⟩ (k_X8_flatAt l dC dI dA sz X Γ hU g h0 t_h0 p1   (by omega)) ⟨callB_of 1 hA (al_A wd_2_48) rfl rfl rfl (hA _ wd_1_1) (hA _ wd_2_45) (by decide +kernel) ⟨Nat.le_of_ble_eq_true rfl, Nat.le_of_ble_eq_true rfl⟩, hA _ wd_2_47, hA _ ws_0⟩ ⟨bl, recv_X8 hE hG t_h0, fun U hU9 hW9 => ⟨rfl, by rw [hU9]; exact hG, hE.go hS hU9 hW9⟩⟩ rfl rfl hl.1 rfl (lv_room (Nat.le_of_ble_eq_true rfl)) dX8_own_2 ⟨Nat.zero_le _, Nat.zero_le _⟩) hS (fun r3 u1 H locs w2 hG hS => ?_)
  obtain ⟨t_r3, w2⟩ := w2
  obtain ⟨eu4, w2⟩ := w2
  rw [eu4] at hG
  refine ty_astoreq (lv' := [(4, va_rf r3), (0, .ref h0), (1, .int p1), (2, .int p2), (3, .int p3)]) hx hb dX8_own_5 hl (by decide) rfl (fun ls hl => ?_)
  refine lv_aload_n hx hb dX8_own_7 rfl (lv_at hl 1 rfl) ?_
  refine lv_iload_n hx hb dX8_own_8 rfl (lv_at hl 4 rfl) ?_
  refine cQ (va_runV (C := RX8) (As := [.int p3]) (rest := []) ⟨hx, hb, hml, hown, hA⟩ (k_X8_livingOwnerAt l dC dI dA sz X Γ hU g h0 t_h0 p3   (by omega)) ⟨callB_of 1 hA (al_A wd_2_52) rfl rfl rfl (hA _ wd_1_1) (hA _ wd_2_49) (by decide +kernel) ⟨Nat.le_of_ble_eq_true rfl, Nat.le_of_ble_eq_true rfl⟩, hA _ wd_2_51, hA _ ws_1⟩ ⟨bl, recv_X8 hE hG t_h0, fun U hU9 hW9 => ⟨rfl, by rw [hU9]; exact hG, hE.go hS hU9 hW9⟩⟩ rfl rfl hl.1 rfl (lv_room (Nat.le_of_ble_eq_true rfl)) dX8_own_9 ⟨Nat.zero_le _, Nat.zero_le _⟩) hS (fun r7 u5 H locs w6 hG hS => ?_)
  obtain ⟨t_r7, w6⟩ := w6
  have eu8 := w6
  rw [eu8] at hG
  refine ty_astoreq (lv' := [(5, va_rf r7), (4, va_rf r3), (0, .ref h0), (1, .int p1), (2, .int p2), (3, .int p3)]) hx hb dX8_own_12 hl (by decide) (by cases r3 <;> rfl) (fun ls hl => ?_)
  refine ty_aloadq hx hb dX8_own_14 (lv_at hl 1 rfl) ?_
  refine ty_ifnull (tgt := 36) hx hb dX8_own_16 (by decide) (fun h10 => ?_) (fun b9 h10 => ?_)
  · skip
    subst h10
    have hl : lv_has ls 7 [(5, va_rf r7), (4, .null), (0, .ref h0), (1, .int p1), (2, .int p2), (3, .int p3)] := hl
    refine ty_iconst hx hb (0) dX8_own_36 (by decide) (fun x11 h12 => ?_)
    exact W.zret (v := x11) hx hb hr (ty_nb (by omega)).1 (fun t ht hW => ⟨⟨x11, g, rfl, rfl, ok1 ht hG⟩, hS.F ht⟩) hS.2.2 dX8_own_37
  · skip
    subst h10
    have t_b9 : ty Γ b9 2 := t_r3 b9 rfl
    have hl : lv_has ls 7 [(5, va_rf r7), (4, .ref b9), (0, .ref h0), (1, .int p1), (2, .int p2), (3, .int p3)] := hl
    refine lv_iload_n hx hb dX8_own_19 rfl (lv_at hl 4 rfl) ?_
    refine cI (va_runS (As := [.int p2]) (rest := []) ⟨hx, hb, hml, hown, hA⟩ (k_X8_isWeek l dC dI dA sz X Γ hU g p2   ) ⟨callB_of 1 hA (al_A wd_2_59) rfl rfl rfl (hA _ wd_1_1) (hA _ wd_2_57) (by decide +kernel) ⟨Nat.le_of_ble_eq_true rfl, Nat.le_of_ble_eq_true rfl⟩, hA _ wd_2_58⟩ ⟨bl, fun U hU9 hW9 => ⟨rfl, by rw [hU9]; exact hG, hE.go hS hU9 hW9⟩⟩ rfl rfl hl.1 rfl (lv_room (Nat.le_of_ble_eq_true rfl)) dX8_own_20 ⟨Nat.zero_le _, Nat.zero_le _⟩) hS (fun x15 u13 H locs w14 hG hS => ?_)
    obtain ⟨eu16, w14⟩ := w14
    rw [eu16] at hG
    refine ty_if_eq (tgt := 36) hx hb dX8_own_23 (by decide) (fun c17 => ?_) (fun c17 => ?_)
    · skip
      refine ty_iconst hx hb (0) dX8_own_36 (by decide) (fun x18 h19 => ?_)
      exact W.zret (v := x18) hx hb hr (ty_nb (by omega)).1 (fun t ht hW => ⟨⟨x18, g, rfl, rfl, ok1 ht hG⟩, hS.F ht⟩) hS.2.2 dX8_own_37
    · skip
      refine ty_aloadq hx hb dX8_own_26 (lv_at hl 0 rfl) ?_
      refine ty_ifnonnull (tgt := 38) hx hb dX8_own_28 (by decide) (fun b20 h21 => ?_) (fun h21 => ?_)
      · skip
        subst h21
        have t_b20 : ty Γ b20 3 := t_r7 b20 rfl
        have hl : lv_has ls 7 [(5, .ref b20), (4, .ref b9), (0, .ref h0), (1, .int p1), (2, .int p2), (3, .int p3)] := hl
        refine lv_aload hx hb dX8_own_38 (lv_at hl 1 rfl) ?_
        refine get_X1_5 hx hb hA hown hE hG t_b9 wd_1_223 dX8_own_40 (fun b22 (t_b22 : ty Γ b22 15) => ?_)
        refine lv_iload_n hx hb dX8_own_43 rfl (lv_at hl 4 rfl) ?_
        refine ald_15 hx hb hE hG t_b22 (by omega) dX8_own_44 (fun j24 r23 h25 t_r23 => ?_)
        refine ty_astoreq (lv' := [(6, va_rf r23), (5, .ref b20), (4, .ref b9), (0, .ref h0), (1, .int p1), (2, .int p2), (3, .int p3)]) hx hb dX8_own_45 hl (by decide) rfl (fun ls hl => ?_)
        refine ty_aloadq hx hb dX8_own_47 (lv_at hl 0 rfl) ?_
        refine ty_ifnull (tgt := 62) hx hb dX8_own_49 (by decide) (fun h28 => ?_) (fun b27 h28 => ?_)
        · skip
          subst h28
          have hl : lv_has ls 7 [(6, .null), (5, .ref b20), (4, .ref b9), (0, .ref h0), (1, .int p1), (2, .int p2), (3, .int p3)] := hl
          refine lv_aload hx hb dX8_own_62 (lv_at hl 2 rfl) ?_
          refine lv_iload_n hx hb dX8_own_64 rfl (lv_at hl 5 rfl) ?_
          refine lv_aload hx hb dX8_own_65 (lv_at hl 1 rfl) ?_
          refine cV (va_runV (C := RX1) (As := [.int p2, .ref b20]) (rest := []) ⟨hx, hb, hml, hown, hA⟩ (k_X1_passTo l dC dI dA sz X Γ hU g b9 t_b9 p2 (some b20) (fun _ h => by cases h; exact t_b20)   ) ⟨callB_of 2 hA (al_A wd_2_71) rfl rfl rfl (hA _ wd_1_8) (hA _ wd_2_68) (by decide +kernel) ⟨Nat.le_of_ble_eq_true rfl, Nat.le_of_ble_eq_true rfl⟩, hA _ wd_2_69, hA _ wd_2_70⟩ ⟨bl, recv_X1 hE hG t_b9, fun U hU9 hW9 => ⟨rfl, by rw [hU9]; exact hG, hE.go hS hU9 hW9⟩⟩ rfl rfl hl.1 rfl (lv_room (Nat.le_of_ble_eq_true rfl)) dX8_own_67 ⟨Nat.zero_le _, Nat.zero_le _⟩) hS (fun u29 H locs w30 hG hS => ?_)
          have eu31 := w30
          rw [eu31] at hG
          refine ty_iconst hx hb (1) dX8_own_70 (by decide) (fun x32 h33 => ?_)
          exact W.zret (v := x32) hx hb hr (ty_nb (by omega)).1 (fun t ht hW => ⟨⟨x32, g, rfl, rfl, ok1 ht hG⟩, hS.F ht⟩) hS.2.2 dX8_own_71
        · skip
          subst h28
          have t_b27 : ty Γ b27 4 := t_r23 b27 rfl
          have hl : lv_has ls 7 [(6, .ref b27), (5, .ref b20), (4, .ref b9), (0, .ref h0), (1, .int p1), (2, .int p2), (3, .int p3)] := hl
          refine lv_aload hx hb dX8_own_52 (lv_at hl 0 rfl) ?_
          refine cI (va_runV (C := RX2) (As := []) (rest := []) ⟨hx, hb, hml, hown, hA⟩ (k_X2_isOut l dC dI dA sz X Γ hU g b27 t_b27   ) ⟨callB_of 0 hA (al_A wd_2_63) rfl rfl rfl (hA _ wd_1_15) (hA _ wd_2_60) (by decide +kernel) ⟨Nat.le_of_ble_eq_true rfl, Nat.le_of_ble_eq_true rfl⟩, hA _ wd_2_61, hA _ wd_2_62⟩ ⟨bl, recv_X2 hE hG t_b27, fun U hU9 hW9 => ⟨rfl, by rw [hU9]; exact hG, hE.go hS hU9 hW9⟩⟩ rfl rfl hl.1 rfl (lv_room (Nat.le_of_ble_eq_true rfl)) dX8_own_54 ⟨Nat.zero_le _, Nat.zero_le _⟩) hS (fun x36 u34 H locs w35 hG hS => ?_)
          obtain ⟨eu37, w35⟩ := w35
          rw [eu37] at hG
          refine ty_if_eq (tgt := 62) hx hb dX8_own_57 (by decide) (fun c38 => ?_) (fun c38 => ?_)
          · skip
            refine lv_aload hx hb dX8_own_62 (lv_at hl 2 rfl) ?_
            refine lv_iload_n hx hb dX8_own_64 rfl (lv_at hl 5 rfl) ?_
            refine lv_aload hx hb dX8_own_65 (lv_at hl 1 rfl) ?_
            refine cV (va_runV (C := RX1) (As := [.int p2, .ref b20]) (rest := []) ⟨hx, hb, hml, hown, hA⟩ (k_X1_passTo l dC dI dA sz X Γ hU g b9 t_b9 p2 (some b20) (fun _ h => by cases h; exact t_b20)   ) ⟨callB_of 2 hA (al_A wd_2_71) rfl rfl rfl (hA _ wd_1_8) (hA _ wd_2_68) (by decide +kernel) ⟨Nat.le_of_ble_eq_true rfl, Nat.le_of_ble_eq_true rfl⟩, hA _ wd_2_69, hA _ wd_2_70⟩ ⟨bl, recv_X1 hE hG t_b9, fun U hU9 hW9 => ⟨rfl, by rw [hU9]; exact hG, hE.go hS hU9 hW9⟩⟩ rfl rfl hl.1 rfl (lv_room (Nat.le_of_ble_eq_true rfl)) dX8_own_67 ⟨Nat.zero_le _, Nat.zero_le _⟩) hS (fun u39 H locs w40 hG hS => ?_)
            have eu41 := w40
            rw [eu41] at hG
            refine ty_iconst hx hb (1) dX8_own_70 (by decide) (fun x42 h43 => ?_)
            exact W.zret (v := x42) hx hb hr (ty_nb (by omega)).1 (fun t ht hW => ⟨⟨x42, g, rfl, rfl, ok1 ht hG⟩, hS.F ht⟩) hS.2.2 dX8_own_71
          · skip
            refine ty_iconst hx hb (0) dX8_own_60 (by decide) (fun x44 h45 => ?_)
            exact W.zret (v := x44) hx hb hr (ty_nb (by omega)).1 (fun t ht hW => ⟨⟨x44, g, rfl, rfl, ok1 ht hG⟩, hS.F ht⟩) hS.2.2 dX8_own_61
      · skip
        subst h21
        have hl : lv_has ls 7 [(5, .null), (4, .ref b9), (0, .ref h0), (1, .int p1), (2, .int p2), (3, .int p3)] := hl
        refine lv_iload_n hx hb dX8_own_31 rfl (lv_at hl 5 rfl) ?_
        refine ty_iconst hx hb (-1) dX8_own_32 (by decide) (fun x46 h47 => ?_)
        refine ty_icmp_eq (tgt := 38) hx hb dX8_own_33 (by decide) (fun c48 => ?_) (fun c48 => ?_)
        · skip
          refine lv_aload hx hb dX8_own_38 (lv_at hl 1 rfl) ?_
          refine get_X1_5 hx hb hA hown hE hG t_b9 wd_1_223 dX8_own_40 (fun b49 (t_b49 : ty Γ b49 15) => ?_)
          refine lv_iload_n hx hb dX8_own_43 rfl (lv_at hl 4 rfl) ?_
          refine ald_15 hx hb hE hG t_b49 (by omega) dX8_own_44 (fun j51 r50 h52 t_r50 => ?_)
          refine ty_astoreq (lv' := [(6, va_rf r50), (5, .null), (4, .ref b9), (0, .ref h0), (1, .int p1), (2, .int p2), (3, .int p3)]) hx hb dX8_own_45 hl (by decide) rfl (fun ls hl => ?_)
          refine ty_aloadq hx hb dX8_own_47 (lv_at hl 0 rfl) ?_
          refine ty_ifnull (tgt := 62) hx hb dX8_own_49 (by decide) (fun h55 => ?_) (fun b54 h55 => ?_)
          · skip
            subst h55
            have hl : lv_has ls 7 [(6, .null), (5, .null), (4, .ref b9), (0, .ref h0), (1, .int p1), (2, .int p2), (3, .int p3)] := hl
            refine lv_aload hx hb dX8_own_62 (lv_at hl 2 rfl) ?_
            refine lv_iload_n hx hb dX8_own_64 rfl (lv_at hl 5 rfl) ?_
            refine lv_aloadN hx hb dX8_own_65 (lv_at hl 1 rfl) ?_
            refine cV (va_runV (C := RX1) (As := [.int p2, .null]) (rest := []) ⟨hx, hb, hml, hown, hA⟩ (k_X1_passTo l dC dI dA sz X Γ hU g b9 t_b9 p2 none (fun _ h => by cases h)   ) ⟨callB_of 2 hA (al_A wd_2_71) rfl rfl rfl (hA _ wd_1_8) (hA _ wd_2_68) (by decide +kernel) ⟨Nat.le_of_ble_eq_true rfl, Nat.le_of_ble_eq_true rfl⟩, hA _ wd_2_69, hA _ wd_2_70⟩ ⟨bl, recv_X1 hE hG t_b9, fun U hU9 hW9 => ⟨rfl, by rw [hU9]; exact hG, hE.go hS hU9 hW9⟩⟩ rfl rfl hl.1 rfl (lv_room (Nat.le_of_ble_eq_true rfl)) dX8_own_67 ⟨Nat.zero_le _, Nat.zero_le _⟩) hS (fun u56 H locs w57 hG hS => ?_)
            have eu58 := w57
            rw [eu58] at hG
            refine ty_iconst hx hb (1) dX8_own_70 (by decide) (fun x59 h60 => ?_)
            exact W.zret (v := x59) hx hb hr (ty_nb (by omega)).1 (fun t ht hW => ⟨⟨x59, g, rfl, rfl, ok1 ht hG⟩, hS.F ht⟩) hS.2.2 dX8_own_71
          · skip
            subst h55
            have t_b54 : ty Γ b54 4 := t_r50 b54 rfl
            have hl : lv_has ls 7 [(6, .ref b54), (5, .null), (4, .ref b9), (0, .ref h0), (1, .int p1), (2, .int p2), (3, .int p3)] := hl
            refine lv_aload hx hb dX8_own_52 (lv_at hl 0 rfl) ?_
            refine cI (va_runV (C := RX2) (As := []) (rest := []) ⟨hx, hb, hml, hown, hA⟩ (k_X2_isOut l dC dI dA sz X Γ hU g b54 t_b54   ) ⟨callB_of 0 hA (al_A wd_2_63) rfl rfl rfl (hA _ wd_1_15) (hA _ wd_2_60) (by decide +kernel) ⟨Nat.le_of_ble_eq_true rfl, Nat.le_of_ble_eq_true rfl⟩, hA _ wd_2_61, hA _ wd_2_62⟩ ⟨bl, recv_X2 hE hG t_b54, fun U hU9 hW9 => ⟨rfl, by rw [hU9]; exact hG, hE.go hS hU9 hW9⟩⟩ rfl rfl hl.1 rfl (lv_room (Nat.le_of_ble_eq_true rfl)) dX8_own_54 ⟨Nat.zero_le _, Nat.zero_le _⟩) hS (fun x63 u61 H locs w62 hG hS => ?_)
            obtain ⟨eu64, w62⟩ := w62
            rw [eu64] at hG
            refine ty_if_eq (tgt := 62) hx hb dX8_own_57 (by decide) (fun c65 => ?_) (fun c65 => ?_)
            · skip
              refine lv_aload hx hb dX8_own_62 (lv_at hl 2 rfl) ?_
              refine lv_iload_n hx hb dX8_own_64 rfl (lv_at hl 5 rfl) ?_
              refine lv_aloadN hx hb dX8_own_65 (lv_at hl 1 rfl) ?_
              refine cV (va_runV (C := RX1) (As := [.int p2, .null]) (rest := []) ⟨hx, hb, hml, hown, hA⟩ (k_X1_passTo l dC dI dA sz X Γ hU g b9 t_b9 p2 none (fun _ h => by cases h)   ) ⟨callB_of 2 hA (al_A wd_2_71) rfl rfl rfl (hA _ wd_1_8) (hA _ wd_2_68) (by decide +kernel) ⟨Nat.le_of_ble_eq_true rfl, Nat.le_of_ble_eq_true rfl⟩, hA _ wd_2_69, hA _ wd_2_70⟩ ⟨bl, recv_X1 hE hG t_b9, fun U hU9 hW9 => ⟨rfl, by rw [hU9]; exact hG, hE.go hS hU9 hW9⟩⟩ rfl rfl hl.1 rfl (lv_room (Nat.le_of_ble_eq_true rfl)) dX8_own_67 ⟨Nat.zero_le _, Nat.zero_le _⟩) hS (fun u66 H locs w67 hG hS => ?_)
              have eu68 := w67
              rw [eu68] at hG
              refine ty_iconst hx hb (1) dX8_own_70 (by decide) (fun x69 h70 => ?_)
              exact W.zret (v := x69) hx hb hr (ty_nb (by omega)).1 (fun t ht hW => ⟨⟨x69, g, rfl, rfl, ok1 ht hG⟩, hS.F ht⟩) hS.2.2 dX8_own_71
            · skip
              refine ty_iconst hx hb (0) dX8_own_60 (by decide) (fun x71 h72 => ?_)
              exact W.zret (v := x71) hx hb hr (ty_nb (by omega)).1 (fun t ht hW => ⟨⟨x71, g, rfl, rfl, ok1 ht hG⟩, hS.F ht⟩) hS.2.2 dX8_own_61
        · skip
          refine ty_iconst hx hb (0) dX8_own_36 (by decide) (fun x73 h74 => ?_)
          exact W.zret (v := x73) hx hb hr (ty_nb (by omega)).1 (fun t ht hW => ⟨⟨x73, g, rfl, rfl, ok1 ht hG⟩, hS.F ht⟩) hS.2.2 dX8_own_37

set_option maxHeartbeats 4000000 in
set_option maxRecDepth 100000 in
/-- WeekBank.worth:  -/
theorem k_X8_worth (l : Launch) (dC : Nat → ClassId) (dI : Nat → Nat → Nat) (dA : Nat → ClassId) (sz : Nat) (X : va_W) (Γ : ty_G) (hU : Un Γ) (g : gh) (h0 : Nat) (t_h0 : ty Γ h0 1) (p1 : Int32) (p2 : Int32) (g1 : g 1 0 = g 33 0 ∧ 0 ≤ g 1 0 ∧ g 1 0 ≤ 6) : Met l yX8_worth (.code yX8_worth cX8_worth 4 (Option.some Jvm.ClassFile.FieldType.int) :: AL) ({ frames := 3, cells := 0, slots := 0, locals := 58 }) (PCx dC dI dA sz X Γ g [.ref h0, .int p1, .int p2]) (va_Qi (fun (r : Int32) (u : gh) => u = g) (okb dC dI dA sz X Γ) (ty_A sz)) 0 0 (ty_A sz) := by
  refine Met.ofW (cc := cX8_worth) (maxL := 4) (ret := (Option.some Jvm.ClassFile.FieldType.int)) (by decide) rfl ?_
  intro p e s m args below meth c s₁ B hml hv
  obtain ⟨rfl, hG, hE⟩ := hv
  have hx := B.exec
  have hb := B.bytes
  have hr := B.returns
  have hts := atoms_spec B.pre
  have hA : ∀ w ∈ AL, w.before _ s = true := fun w h => hts w (List.mem_cons_of_mem _ h)
  have hown : s.vm.findClass RX8 = some m.cls := findClass_of_methodNamed B.named
  have hlocks := B.notSynchronized
  have hS : va_S (ty_A sz) s.heap s.heap [] := va_S.rf
  have hl := lv_entry ([.ref h0, .int p1, .int p2]) (n := 4) (Nat.le_of_ble_eq_true rfl)
  rw [lg_entry_eq]
  generalize (lg_sl ([.ref h0, .int p1, .int p2]) ++ List.replicate (4 - (lg_sl ([.ref h0, .int p1, .int p2])).length) Slot.unset).toArray = ls at hl ⊢
  have hl : lv_has ls 4 [(0, .ref h0), (1, .int p1), (2, .int p2)] := hl
  refine lv_aload_n hx hb dX8_worth_0 rfl (lv_at hl 0 rfl) ?_
  refine lv_iload_n hx hb dX8_worth_1 rfl (lv_at hl 1 rfl) ?_
  refine cQ (va_runV (C := RX8) (As := [.int p1]) (rest := []) ⟨hx, hb, hml, hown, hA⟩ (k_X8_flatAt l dC dI dA sz X Γ hU g h0 t_h0 p1   (by omega)) ⟨callB_of 1 hA (al_A wd_2_48) rfl rfl rfl (hA _ wd_1_1) (hA _ wd_2_45) (by decide +kernel) ⟨Nat.le_of_ble_eq_true rfl, Nat.le_of_ble_eq_true rfl⟩, hA _ wd_2_47, hA _ ws_0⟩ ⟨bl, recv_X8 hE hG t_h0, fun U hU9 hW9 => ⟨rfl, by rw [hU9]; exact hG, hE.go hS hU9 hW9⟩⟩ rfl rfl hl.1 rfl (lv_room (Nat.le_of_ble_eq_true rfl)) dX8_worth_2 ⟨Nat.zero_le _, Nat.zero_le _⟩) hS (fun r3 u1 H locs w2 hG hS => ?_)
  obtain ⟨t_r3, w2⟩ := w2
  obtain ⟨eu4, w2⟩ := w2
  rw [eu4] at hG
  refine ty_astore_nq (lv' := [(3, va_rf r3), (0, .ref h0), (1, .int p1), (2, .int p2)]) hx hb dX8_worth_5 rfl hl (by decide) rfl (fun ls hl => ?_)
  refine ty_aload_nq hx hb dX8_worth_6 rfl (lv_at hl 0 rfl) ?_
  refine ty_ifnull (tgt := 17) hx hb dX8_worth_7 (by decide) (fun h6 => ?_) (fun b5 h6 => ?_)
  · skip
    subst h6
    have hl : lv_has ls 4 [(3, .null), (0, .ref h0), (1, .int p1), (2, .int p2)] := hl
    refine ty_iconst hx hb (-1) dX8_worth_17 (by decide) (fun x7 h8 => ?_)
    exact W.iret (v := x7) hx hb hr (fun t ht hW => ⟨⟨x7, g, rfl, rfl, ok1 ht hG⟩, hS.F ht⟩) hS.2.2 dX8_worth_18
  · skip
    subst h6
    have t_b5 : ty Γ b5 2 := t_r3 b5 rfl
    have hl : lv_has ls 4 [(3, .ref b5), (0, .ref h0), (1, .int p1), (2, .int p2)] := hl
    refine lv_iload_n hx hb dX8_worth_10 rfl (lv_at hl 3 rfl) ?_
    refine cI (va_runS (As := [.int p2]) (rest := []) ⟨hx, hb, hml, hown, hA⟩ (k_X8_isWeek l dC dI dA sz X Γ hU g p2   ) ⟨callB_of 1 hA (al_A wd_2_59) rfl rfl rfl (hA _ wd_1_1) (hA _ wd_2_57) (by decide +kernel) ⟨Nat.le_of_ble_eq_true rfl, Nat.le_of_ble_eq_true rfl⟩, hA _ wd_2_58⟩ ⟨bl, fun U hU9 hW9 => ⟨rfl, by rw [hU9]; exact hG, hE.go hS hU9 hW9⟩⟩ rfl rfl hl.1 rfl (lv_room (Nat.le_of_ble_eq_true rfl)) dX8_worth_11 ⟨Nat.zero_le _, Nat.zero_le _⟩) hS (fun x11 u9 H locs w10 hG hS => ?_)
    obtain ⟨eu12, w10⟩ := w10
    rw [eu12] at hG
    refine ty_if_ne (tgt := 19) hx hb dX8_worth_14 (by decide) (fun c13 => ?_) (fun c13 => ?_)
    · skip
      refine lv_aload_n hx hb dX8_worth_19 rfl (lv_at hl 1 rfl) ?_
      refine get_X8_7 hx hb hA hown hE hG t_h0 wd_1_164 dX8_worth_20 (fun b14 i15 t_b14 h16 h16' => ?_)
      refine lv_aload_n hx hb dX8_worth_23 rfl (lv_at hl 0 rfl) ?_
      refine get_X1_2 hx hb hA hown hE hG t_b5 wd_1_217 dX8_worth_24 (fun x17 => ?_)
      refine lv_iload_n hx hb dX8_worth_27 rfl (lv_at hl 3 rfl) ?_
      refine lv_iload_n hx hb dX8_worth_28 rfl (lv_at hl 3 rfl) ?_
      refine lv_aload_n hx hb dX8_worth_29 rfl (lv_at hl 1 rfl) ?_
      refine get_X8_10 hx hb hA hown hE hG t_h0 wd_1_167 dX8_worth_30 (fun x18 h19 => ?_)
      refine ty_isub hx hb dX8_worth_33 (fun x21 h22 => ?_)
      try have h23 : x21.toInt = p2.toInt - x18.toInt := ty_sub h22 (by omega) (by omega)
      refine cI (va_runV (C := RX6) (As := [.int x17, .int p2, .int x21]) (rest := []) ⟨hx, hb, hml, hown, hA⟩ (k_X6_worthOf l dC dI dA sz X Γ hU g b14 i15 t_b14 x17 p2 x21   ) ⟨callB_of 3 hA (al_A wd_2_233) rfl rfl rfl (hA _ wd_1_3) (hA _ wd_2_230) (by decide +kernel) ⟨Nat.le_of_ble_eq_true rfl, Nat.le_of_ble_eq_true rfl⟩, hA _ wd_2_231, hA _ wd_2_232⟩ ⟨bl, recv_X6 hE hG (by rw [t_b14]), fun U hU9 hW9 => ⟨rfl, by rw [hU9]; exact hG, hE.go hS hU9 hW9⟩⟩ rfl rfl hl.1 rfl (lv_room (Nat.le_of_ble_eq_true rfl)) dX8_worth_34 ⟨Nat.zero_le _, Nat.zero_le _⟩) hS (fun x26 u24 H locs w25 hG hS => ?_)
      have eu27 := w25
      rw [eu27] at hG
      exact W.iret (v := x26) hx hb hr (fun t ht hW => ⟨⟨x26, g, rfl, rfl, ok1 ht hG⟩, hS.F ht⟩) hS.2.2 dX8_worth_37
    · skip
      refine ty_iconst hx hb (-1) dX8_worth_17 (by decide) (fun x28 h29 => ?_)
      exact W.iret (v := x28) hx hb hr (fun t ht hW => ⟨⟨x28, g, rfl, rfl, ok1 ht hG⟩, hS.F ht⟩) hS.2.2 dX8_worth_18

set_option maxHeartbeats 4000000 in
set_option maxRecDepth 100000 in
/-- WeekBank.addGift:  -/
theorem k_X8_addGift (l : Launch) (dC : Nat → ClassId) (dI : Nat → Nat → Nat) (dA : Nat → ClassId) (sz : Nat) (X : va_W) (Γ : ty_G) (hU : Un Γ) (g : gh) (h0 : Nat) (t_h0 : ty Γ h0 1) (p1 : Nat) (t_p1 : ty Γ p1 3) (p2 : Nat) (t_p2 : ty Γ p2 2) (p3 : Int32) (g3 : g 3 0 = g 35 0 ∧ 0 ≤ g 3 0 ∧ g 3 0 ≤ 200) (g3b : g 3 0 < 200 ∧ 0 ≤ p3.toInt ∧ p3.toInt ≤ 52) : Met l yX8_addGift (.code yX8_addGift cX8_addGift 5 (Option.some Jvm.ClassFile.FieldType.int) :: AL) ({ frames := 3, cells := 1, slots := 10, locals := 58 }) (PCx dC dI dA sz X Γ g [.ref h0, .ref p1, .ref p2, .int p3]) (va_Qi (fun (r : Int32) (u : (ty_G × gh)) => ext Γ u.1 ∧ Un u.1 ∧ (∀ c j : Nat, c ≠ 3 → c ≠ 35 → u.2 c j = g c j) ∧ ((u.2 3 0 = g 3 0 + 1 ∧ u.2 35 0 = g 3 0 + 1))) (okB dC dI dA sz X) (ty_A sz)) 1 10 (ty_A sz) := by
  refine Met.ofW (cc := cX8_addGift) (maxL := 5) (ret := (Option.some Jvm.ClassFile.FieldType.int)) (by decide) rfl ?_
  intro p e s m args below meth c s₁ B hml hv
  obtain ⟨rfl, hG, hE⟩ := hv
  have hx := B.exec
  have hb := B.bytes
  have hr := B.returns
  have hts := atoms_spec B.pre
  have hA : ∀ w ∈ AL, w.before _ s = true := fun w h => hts w (List.mem_cons_of_mem _ h)
  have hown : s.vm.findClass RX8 = some m.cls := findClass_of_methodNamed B.named
  have hlocks := B.notSynchronized
  have hS : va_S (ty_A sz) s.heap s.heap [] := va_S.rf
  have hl := lv_entry ([.ref h0, .ref p1, .ref p2, .int p3]) (n := 5) (Nat.le_of_ble_eq_true rfl)
  rw [lg_entry_eq]
  generalize (lg_sl ([.ref h0, .ref p1, .ref p2, .int p3]) ++ List.replicate (5 - (lg_sl ([.ref h0, .ref p1, .ref p2, .int p3])).length) Slot.unset).toArray = ls at hl ⊢
  have hl : lv_has ls 5 [(0, .ref h0), (1, .ref p1), (2, .ref p2), (3, .int p3)] := hl
  refine new_X2 hx hb hA hE hG hS hown wd_1_34 wd_3_13 wd_1_15 (Nat.le_of_ble_eq_true rfl) (Nat.le_of_ble_eq_true rfl) dX8_addGift_0 (fun q1 H z_q1 s_q1 e_q1 hG hS => ?_)
  clear z_q1 s_q1 e_q1
  refine lv_dup hx hb dX8_addGift_3 rfl ?_
  refine lv_aload_n hx hb dX8_addGift_4 rfl (lv_at hl 0 rfl) ?_
  refine get_X8_5 hx hb hA hown hE hG t_h0 wd_1_162 dX8_addGift_5 (fun x2 h3 => ?_)
  refine lv_aload_n hx hb dX8_addGift_8 rfl (lv_at hl 1 rfl) ?_
  refine lv_aload_n hx hb dX8_addGift_9 rfl (lv_at hl 2 rfl) ?_
  refine lv_iload_n hx hb dX8_addGift_10 rfl (lv_at hl 3 rfl) ?_
  refine cVB (va_runI (As := [.int x2, .ref p1, .ref p2, .int p3]) (rest := [.ref q1]) ⟨hx, hb, hml, hown, hA⟩ (k_X2_init l dC dI dA sz X Γ hU g q1 x2 p1 t_p1 p2 t_p2 p3   ) ⟨callB_of 4 hA (al_A wd_3_16) rfl rfl rfl (hA _ wd_1_15) (hA _ wd_3_14) (by decide +kernel) ⟨Nat.le_of_ble_eq_true rfl, Nat.le_of_ble_eq_true rfl⟩, rfl, hA _ wd_3_15⟩ ⟨bl, fun U hU9 hW9 => ⟨rfl, by rw [hU9]; exact hG, hE.go hS hU9 hW9⟩⟩ rfl rfl hl.1 rfl (lv_room (Nat.le_of_ble_eq_true rfl)) dX8_addGift_11 ⟨Nat.le_of_ble_eq_true rfl, Nat.le_of_ble_eq_true rfl⟩) hS (fun u5 H locs w6 hG hS => ?_)
  obtain ⟨Γ7, g8⟩ := u5
  dsimp only at w6 hG
  obtain ⟨hx9, hU, t_q1, eu13⟩ := w6
  rw [eu13] at hG
  replace t_q1 : ty Γ7 q1 4 := t_q1
  have hX14 : ext Γ Γ7 := ext.trans ext.rf hx9
  replace t_h0 : ty Γ7 h0 1 := hx9.one t_h0 (by decide)
  replace t_p1 : ty Γ7 p1 3 := hx9.one t_p1 (by decide)
  replace t_p2 : ty Γ7 p2 2 := hx9.one t_p2 (by decide)
  refine lv_astore (lv' := [(4, .ref q1), (0, .ref h0), (1, .ref p1), (2, .ref p2), (3, .int p3)]) hx hb dX8_addGift_14 hl (by decide) rfl (fun ls hl => ?_)
  refine lv_aload hx hb dX8_addGift_16 (lv_at hl 0 rfl) ?_
  refine lv_aload_n hx hb dX8_addGift_18 rfl (lv_at hl 1 rfl) ?_
  refine get_X8_9 hx hb hA hown hE hG t_h0 wd_1_166 dX8_addGift_19 (fun x15 h16 => ?_)
  refine put_X2_4 hx hb hA hown hE hG hS t_q1 wd_3_28 dX8_addGift_22 (fun H locs hG hS => ?_)
  refine lv_aload hx hb dX8_addGift_25 (lv_at hl 0 rfl) ?_
  refine lv_aload_n hx hb dX8_addGift_27 rfl (lv_at hl 1 rfl) ?_
  refine get_X8_7 hx hb hA hown hE hG t_h0 wd_1_164 dX8_addGift_28 (fun b18 i19 t_b18 h20 h20' => ?_)
  refine lv_aload_n hx hb dX8_addGift_31 rfl (lv_at hl 3 rfl) ?_
  refine get_X1_2 hx hb hA hown hE hG t_p2 wd_1_217 dX8_addGift_32 (fun x21 => ?_)
  refine lv_iload_n hx hb dX8_addGift_35 rfl (lv_at hl 4 rfl) ?_
  refine lv_iload_n hx hb dX8_addGift_36 rfl (lv_at hl 4 rfl) ?_
  refine lv_aload_n hx hb dX8_addGift_37 rfl (lv_at hl 1 rfl) ?_
  refine get_X8_10 hx hb hA hown hE hG t_h0 wd_1_167 dX8_addGift_38 (fun x22 h23 => ?_)
  refine ty_isub hx hb dX8_addGift_41 (fun x25 h26 => ?_)
  try have h27 : x25.toInt = p3.toInt - x22.toInt := ty_sub h26 (by omega) (by omega)
  refine cI (va_runV (C := RX6) (As := [.int x21, .int p3, .int x25]) (rest := [.ref q1]) ⟨hx, hb, hml, hown, hA⟩ (k_X6_worthOf l dC dI dA sz X Γ7 hU g b18 i19 t_b18 x21 p3 x25   ) ⟨callB_of 3 hA (al_A wd_2_233) rfl rfl rfl (hA _ wd_1_3) (hA _ wd_2_230) (by decide +kernel) ⟨Nat.le_of_ble_eq_true rfl, Nat.le_of_ble_eq_true rfl⟩, hA _ wd_2_231, hA _ wd_2_232⟩ ⟨bl, recv_X6 hE hG (by rw [t_b18]), fun U hU9 hW9 => ⟨rfl, by rw [hU9]; exact hG, hE.go hS hU9 hW9⟩⟩ rfl rfl hl.1 rfl (lv_room (Nat.le_of_ble_eq_true rfl)) dX8_addGift_42 ⟨Nat.le_of_ble_eq_true rfl, Nat.le_of_ble_eq_true rfl⟩) hS (fun x30 u28 H locs w29 hG hS => ?_)
  have eu31 := w29
  rw [eu31] at hG
  refine put_X2_5 hx hb hA hown hE hG hS t_q1 wd_3_30 dX8_addGift_45 (fun H locs hG hS => ?_)
  refine lv_aload_n hx hb dX8_addGift_48 rfl (lv_at hl 1 rfl) ?_
  refine get_X8_4 hx hb hA hown hE hG t_h0 wd_1_161 dX8_addGift_49 (fun b32 (t_b32 : ty Γ7 b32 12) => ?_)
  refine lv_aload_n hx hb dX8_addGift_52 rfl (lv_at hl 1 rfl) ?_
  refine get_X8_5 hx hb hA hown hE hG t_h0 wd_1_162 dX8_addGift_53 (fun x33 h34 => ?_)
  refine lv_aload hx hb dX8_addGift_56 (lv_at hl 0 rfl) ?_
  refine ast_12 hx hb hE hG hS hU t_b32 t_q1 (by omega) (by omega) dX8_addGift_58 (fun H locs hG hS => ?_)
  refine lv_aload_n hx hb dX8_addGift_59 rfl (lv_at hl 1 rfl) ?_
  refine lv_dup hx hb dX8_addGift_60 rfl ?_
  refine get_X8_5 hx hb hA hown hE hG t_h0 wd_1_162 dX8_addGift_61 (fun x36 h37 => ?_)
  replace h37 : x36.toInt = g 3 0 := by rw [h37]; simp [gs]
  refine ty_iconst hx hb (1) dX8_addGift_64 (by decide) (fun x39 h40 => ?_)
  refine ty_iadd hx hb dX8_addGift_65 (fun x41 h42 => ?_)
  try have h43 : x41.toInt = x36.toInt + x39.toInt := ty_add h42 (by omega) (by omega)
  refine put_X8_5 hx hb hA hown hE hG hS hU t_h0 wd_1_162 dX8_addGift_66 (fun H locs hG hS => ?_)
  refine lv_aload_n hx hb dX8_addGift_69 rfl (lv_at hl 3 rfl) ?_
  refine get_X1_5 hx hb hA hown hE hG t_p2 wd_1_223 dX8_addGift_70 (fun b44 (t_b44 : ty Γ7 b44 15) => ?_)
  refine lv_iload_n hx hb dX8_addGift_73 rfl (lv_at hl 4 rfl) ?_
  refine lv_aload hx hb dX8_addGift_74 (lv_at hl 0 rfl) ?_
  refine ast_15 (r := some q1) hx hb hE hG hS t_b44 (fun _ h => by cases h; exact t_q1) (by omega) dX8_addGift_76 (fun H locs hG hS => ?_)
  refine lv_aload hx hb dX8_addGift_77 (lv_at hl 0 rfl) ?_
  refine get_X2_0 hx hb hA hown hE hG t_q1 wd_3_19 dX8_addGift_79 (fun x45 => ?_)
  have e46 : (gs (gs g 35 0 (x33.toInt + 1)) 3 0 x41.toInt) 3 0 = x41.toInt := by simp [gs]
  have e47 : (gs (gs g 35 0 (x33.toInt + 1)) 3 0 x41.toInt) 35 0 = (x33.toInt + 1) := by simp [gs]
  refine W.widen (k := 1) (n := 10) (by omega) (by omega) ?_
  exact W.iret (v := x45) hx hb hr (fun t ht hW => ⟨⟨x45, (Γ7, (gs (gs g 35 0 (x33.toInt + 1)) 3 0 x41.toInt)), rfl, ⟨hX14, hU, (fun c j h3 h35 => by (try dsimp only); rw [gs_c _ _ _ _ h3, gs_c _ _ _ _ h35]), (by dsimp only; omega)⟩, ok2 ht hG⟩, hS.F ht⟩) hS.2.2 dX8_addGift_82

set_option maxHeartbeats 4000000 in
set_option maxRecDepth 100000 in
/-- WeekBank.give:  -/
theorem k_X8_give (l : Launch) (dC : Nat → ClassId) (dI : Nat → Nat → Nat) (dA : Nat → ClassId) (sz : Nat) (X : va_W) (Γ : ty_G) (hU : Un Γ) (g : gh) (h0 : Nat) (t_h0 : ty Γ h0 1) (p1 : Int32) (p2 : Int32) (p3 : Int32) (g1 : g 1 0 = g 33 0 ∧ 0 ≤ g 1 0 ∧ g 1 0 ≤ 6) (g2 : g 2 0 = g 34 0 ∧ 0 ≤ g 2 0 ∧ g 2 0 ≤ 10) (g3 : g 3 0 = g 35 0 ∧ 0 ≤ g 3 0 ∧ g 3 0 ≤ 200) : Met l yX8_give (.code yX8_give cX8_give 7 (Option.some Jvm.ClassFile.FieldType.int) :: AL) ({ frames := 4, cells := 1, slots := 10, locals := 82 }) (PCx dC dI dA sz X Γ g [.ref h0, .int p1, .int p2, .int p3]) (va_Qi (fun (r : Int32) (u : (ty_G × gh)) => ext Γ u.1 ∧ Un u.1 ∧ (∀ c j : Nat, c ≠ 3 → c ≠ 35 → u.2 c j = g c j) ∧ ((u.2 3 0 = u.2 35 0 ∧ 0 ≤ u.2 3 0 ∧ u.2 3 0 ≤ 200))) (okB dC dI dA sz X) (ty_A sz)) 1 10 (ty_A sz) := by
  refine Met.ofW (cc := cX8_give) (maxL := 7) (ret := (Option.some Jvm.ClassFile.FieldType.int)) (by decide) rfl ?_
  intro p e s m args below meth c s₁ B hml hv
  obtain ⟨rfl, hG, hE⟩ := hv
  have hx := B.exec
  have hb := B.bytes
  have hr := B.returns
  have hts := atoms_spec B.pre
  have hA : ∀ w ∈ AL, w.before _ s = true := fun w h => hts w (List.mem_cons_of_mem _ h)
  have hown : s.vm.findClass RX8 = some m.cls := findClass_of_methodNamed B.named
  have hlocks := B.notSynchronized
  have hS : va_S (ty_A sz) s.heap s.heap [] := va_S.rf
  have hl := lv_entry ([.ref h0, .int p1, .int p2, .int p3]) (n := 7) (Nat.le_of_ble_eq_true rfl)
  rw [lg_entry_eq]
  generalize (lg_sl ([.ref h0, .int p1, .int p2, .int p3]) ++ List.replicate (7 - (lg_sl ([.ref h0, .int p1, .int p2, .int p3])).length) Slot.unset).toArray = ls at hl ⊢
  have hl : lv_has ls 7 [(0, .ref h0), (1, .int p1), (2, .int p2), (3, .int p3)] := hl
  refine lv_aload_n hx hb dX8_give_0 rfl (lv_at hl 0 rfl) ?_
  refine lv_iload_n hx hb dX8_give_1 rfl (lv_at hl 1 rfl) ?_
  refine cQ (va_runV (C := RX8) (As := [.int p1]) (rest := []) ⟨hx, hb, hml, hown, hA⟩ (k_X8_livingOwnerAt l dC dI dA sz X Γ hU g h0 t_h0 p1   (by omega)) ⟨callB_of 1 hA (al_A wd_2_52) rfl rfl rfl (hA _ wd_1_1) (hA _ wd_2_49) (by decide +kernel) ⟨Nat.le_of_ble_eq_true rfl, Nat.le_of_ble_eq_true rfl⟩, hA _ wd_2_51, hA _ ws_1⟩ ⟨bl, recv_X8 hE hG t_h0, fun U hU9 hW9 => ⟨rfl, by rw [hU9]; exact hG, hE.go hS hU9 hW9⟩⟩ rfl rfl hl.1 rfl (lv_room (Nat.le_of_ble_eq_true rfl)) dX8_give_2 ⟨Nat.zero_le _, Nat.zero_le _⟩) hS (fun r3 u1 H locs w2 hG hS => ?_)
  obtain ⟨t_r3, w2⟩ := w2
  have eu4 := w2
  rw [eu4] at hG
  refine ty_astoreq (lv' := [(4, va_rf r3), (0, .ref h0), (1, .int p1), (2, .int p2), (3, .int p3)]) hx hb dX8_give_5 hl (by decide) rfl (fun ls hl => ?_)
  refine lv_aload_n hx hb dX8_give_7 rfl (lv_at hl 1 rfl) ?_
  refine lv_iload_n hx hb dX8_give_8 rfl (lv_at hl 3 rfl) ?_
  refine cQ (va_runV (C := RX8) (As := [.int p2]) (rest := []) ⟨hx, hb, hml, hown, hA⟩ (k_X8_flatAt l dC dI dA sz X Γ hU g h0 t_h0 p2   (by omega)) ⟨callB_of 1 hA (al_A wd_2_48) rfl rfl rfl (hA _ wd_1_1) (hA _ wd_2_45) (by decide +kernel) ⟨Nat.le_of_ble_eq_true rfl, Nat.le_of_ble_eq_true rfl⟩, hA _ wd_2_47, hA _ ws_0⟩ ⟨bl, recv_X8 hE hG t_h0, fun U hU9 hW9 => ⟨rfl, by rw [hU9]; exact hG, hE.go hS hU9 hW9⟩⟩ rfl rfl hl.1 rfl (lv_room (Nat.le_of_ble_eq_true rfl)) dX8_give_9 ⟨Nat.zero_le _, Nat.zero_le _⟩) hS (fun r7 u5 H locs w6 hG hS => ?_)
  obtain ⟨t_r7, w6⟩ := w6
  obtain ⟨eu8, w6⟩ := w6
  rw [eu8] at hG
  refine ty_astoreq (lv' := [(5, va_rf r7), (4, va_rf r3), (0, .ref h0), (1, .int p1), (2, .int p2), (3, .int p3)]) hx hb dX8_give_12 hl (by decide) (by cases r3 <;> rfl) (fun ls hl => ?_)
  refine ty_aloadq hx hb dX8_give_14 (lv_at hl 1 rfl) ?_
  refine ty_ifnull (tgt := 31) hx hb dX8_give_16 (by decide) (fun h10 => ?_) (fun b9 h10 => ?_)
  · skip
    subst h10
    have hl : lv_has ls 7 [(5, va_rf r7), (4, .null), (0, .ref h0), (1, .int p1), (2, .int p2), (3, .int p3)] := hl
    refine ty_iconst hx hb (-1) dX8_give_31 (by decide) (fun x11 h12 => ?_)
    refine W.widen (k := 1) (n := 10) (by omega) (by omega) ?_
    exact W.iret (v := x11) hx hb hr (fun t ht hW => ⟨⟨x11, (Γ, g), rfl, ⟨ext.rf, hU, (fun c j h3 h35 => by rfl), (by dsimp only; omega)⟩, ok2 ht hG⟩, hS.F ht⟩) hS.2.2 dX8_give_32
  · skip
    subst h10
    have t_b9 : ty Γ b9 3 := t_r3 b9 rfl
    have hl : lv_has ls 7 [(5, va_rf r7), (4, .ref b9), (0, .ref h0), (1, .int p1), (2, .int p2), (3, .int p3)] := hl
    refine ty_aloadq hx hb dX8_give_19 (lv_at hl 0 rfl) ?_
    refine ty_ifnull (tgt := 31) hx hb dX8_give_21 (by decide) (fun h14 => ?_) (fun b13 h14 => ?_)
    · skip
      subst h14
      have hl : lv_has ls 7 [(5, .null), (4, .ref b9), (0, .ref h0), (1, .int p1), (2, .int p2), (3, .int p3)] := hl
      refine ty_iconst hx hb (-1) dX8_give_31 (by decide) (fun x15 h16 => ?_)
      refine W.widen (k := 1) (n := 10) (by omega) (by omega) ?_
      exact W.iret (v := x15) hx hb hr (fun t ht hW => ⟨⟨x15, (Γ, g), rfl, ⟨ext.rf, hU, (fun c j h3 h35 => by rfl), (by dsimp only; omega)⟩, ok2 ht hG⟩, hS.F ht⟩) hS.2.2 dX8_give_32
    · skip
      subst h14
      have t_b13 : ty Γ b13 2 := t_r7 b13 rfl
      have hl : lv_has ls 7 [(5, .ref b13), (4, .ref b9), (0, .ref h0), (1, .int p1), (2, .int p2), (3, .int p3)] := hl
      refine lv_iload_n hx hb dX8_give_24 rfl (lv_at hl 5 rfl) ?_
      refine cI (va_runS (As := [.int p3]) (rest := []) ⟨hx, hb, hml, hown, hA⟩ (k_X8_isWeek l dC dI dA sz X Γ hU g p3   ) ⟨callB_of 1 hA (al_A wd_2_59) rfl rfl rfl (hA _ wd_1_1) (hA _ wd_2_57) (by decide +kernel) ⟨Nat.le_of_ble_eq_true rfl, Nat.le_of_ble_eq_true rfl⟩, hA _ wd_2_58⟩ ⟨bl, fun U hU9 hW9 => ⟨rfl, by rw [hU9]; exact hG, hE.go hS hU9 hW9⟩⟩ rfl rfl hl.1 rfl (lv_room (Nat.le_of_ble_eq_true rfl)) dX8_give_25 ⟨Nat.zero_le _, Nat.zero_le _⟩) hS (fun x19 u17 H locs w18 hG hS => ?_)
      obtain ⟨eu20, w18⟩ := w18
      rw [eu20] at hG
      refine ty_if_ne (tgt := 33) hx hb dX8_give_28 (by decide) (fun c21 => ?_) (fun c21 => ?_)
      · skip
        refine lv_aload hx hb dX8_give_33 (lv_at hl 0 rfl) ?_
        refine get_X1_3 hx hb hA hown hE hG t_b13 wd_1_219 dX8_give_35 (fun b22 (t_b22 : ty Γ b22 13) => ?_)
        refine lv_iload_n hx hb dX8_give_38 rfl (lv_at hl 5 rfl) ?_
        refine ald_13 hx hb hE hG t_b22 (by omega) dX8_give_39 (fun j24 r23 h25 t_r23 => ?_)
        refine lv_aload hx hb dX8_give_40 (lv_at hl 1 rfl) ?_
        refine lv_acmp_eq (rx := r23) (ry := some b9) (tgt := 48) hx hb dX8_give_42 (by decide) (fun h27 => ?_) (fun h27 => ?_)
        · skip
          refine lv_iload_n hx hb dX8_give_48 rfl (lv_at hl 5 rfl) ?_
          refine lv_aload_n hx hb dX8_give_49 rfl (lv_at hl 2 rfl) ?_
          refine get_X8_10 hx hb hA hown hE hG t_h0 wd_1_167 dX8_give_50 (fun x28 h29 => ?_)
          refine ty_icmp_gt (tgt := 59) hx hb dX8_give_53 (by decide) (fun c31 => ?_) (fun c31 => ?_)
          · skip
            refine lv_aload hx hb dX8_give_59 (lv_at hl 0 rfl) ?_
            refine get_X1_4 hx hb hA hown hE hG t_b13 wd_1_221 dX8_give_61 (fun b32 (t_b32 : ty Γ b32 14) => ?_)
            refine lv_iload_n hx hb dX8_give_64 rfl (lv_at hl 5 rfl) ?_
            refine ald_14 hx hb hE hG t_b32 (by omega) dX8_give_65 (fun j34 x33 h35 h36 => ?_)
            refine ty_if_eq (tgt := 72) hx hb dX8_give_66 (by decide) (fun c37 => ?_) (fun c37 => ?_)
            · skip
              refine lv_aload hx hb dX8_give_72 (lv_at hl 0 rfl) ?_
              refine get_X1_5 hx hb hA hown hE hG t_b13 wd_1_223 dX8_give_74 (fun b38 (t_b38 : ty Γ b38 15) => ?_)
              refine lv_iload_n hx hb dX8_give_77 rfl (lv_at hl 5 rfl) ?_
              refine ald_15 hx hb hE hG t_b38 (by omega) dX8_give_78 (fun j40 r39 h41 t_r39 => ?_)
              refine ty_astoreq (lv' := [(6, va_rf r39), (5, .ref b13), (4, .ref b9), (0, .ref h0), (1, .int p1), (2, .int p2), (3, .int p3)]) hx hb dX8_give_79 hl (by decide) rfl (fun ls hl => ?_)
              refine ty_aloadq hx hb dX8_give_81 (lv_at hl 0 rfl) ?_
              refine ty_ifnull (tgt := 98) hx hb dX8_give_83 (by decide) (fun h44 => ?_) (fun b43 h44 => ?_)
              · skip
                subst h44
                have hl : lv_has ls 7 [(6, .null), (5, .ref b13), (4, .ref b9), (0, .ref h0), (1, .int p1), (2, .int p2), (3, .int p3)] := hl
                refine lv_aload_n hx hb dX8_give_98 rfl (lv_at hl 3 rfl) ?_
                refine get_X8_5 hx hb hA hown hE hG t_h0 wd_1_162 dX8_give_99 (fun x45 h46 => ?_)
                refine ty_sipush hx hb (200) dX8_give_102 (by decide) (fun x48 h49 => ?_)
                refine ty_icmp_ge (tgt := 118) hx hb dX8_give_105 (by decide) (fun c50 => ?_) (fun c50 => ?_)
                · skip
                  refine ty_bipush hx hb (-6) dX8_give_118 (by decide) (fun x51 h52 => ?_)
                  refine W.widen (k := 1) (n := 10) (by omega) (by omega) ?_
                  exact W.iret (v := x51) hx hb hr (fun t ht hW => ⟨⟨x51, (Γ, g), rfl, ⟨ext.rf, hU, (fun c j h3 h35 => by rfl), (by dsimp only; omega)⟩, ok2 ht hG⟩, hS.F ht⟩) hS.2.2 dX8_give_120
                · skip
                  refine lv_aload_n hx hb dX8_give_108 rfl (lv_at hl 3 rfl) ?_
                  refine ty_iconst hx hb (0) dX8_give_109 (by decide) (fun x53 h54 => ?_)
                  refine cI (va_runV (C := RX8) (As := [.int x53]) (rest := []) ⟨hx, hb, hml, hown, hA⟩ (k_X8_countGifts l dC dI dA sz X Γ hU g h0 t_h0 x53   (by omega)) ⟨callB_of 1 hA (al_A wd_3_8) rfl rfl rfl (hA _ wd_1_1) (hA _ wd_3_5) (by decide +kernel) ⟨Nat.le_of_ble_eq_true rfl, Nat.le_of_ble_eq_true rfl⟩, hA _ wd_3_7, hA _ ws_15⟩ ⟨bl, recv_X8 hE hG t_h0, fun U hU9 hW9 => ⟨rfl, by rw [hU9]; exact hG, hE.go hS hU9 hW9⟩⟩ rfl rfl hl.1 rfl (lv_room (Nat.le_of_ble_eq_true rfl)) dX8_give_110 ⟨Nat.zero_le _, Nat.zero_le _⟩) hS (fun x57 u55 H locs w56 hG hS => ?_)
                  have eu58 := w56
                  rw [eu58] at hG
                  refine ty_bipush hx hb (9) dX8_give_113 (by decide) (fun x59 h60 => ?_)
                  refine ty_icmp_lt (tgt := 121) hx hb dX8_give_115 (by decide) (fun c61 => ?_) (fun c61 => ?_)
                  · skip
                    refine lv_aload_n hx hb dX8_give_121 rfl (lv_at hl 3 rfl) ?_
                    refine lv_aload hx hb dX8_give_122 (lv_at hl 2 rfl) ?_
                    refine lv_aload hx hb dX8_give_124 (lv_at hl 1 rfl) ?_
                    refine lv_iload_n hx hb dX8_give_126 rfl (lv_at hl 6 rfl) ?_
                    refine cIB (va_runV (C := RX8) (As := [.ref b9, .ref b13, .int p3]) (rest := []) ⟨hx, hb, hml, hown, hA⟩ (k_X8_addGift l dC dI dA sz X Γ hU g h0 t_h0 b9 t_b9 b13 t_b13 p3   (by omega) (by omega)) ⟨callB_of 3 hA (al_A wd_3_12) rfl rfl rfl (hA _ wd_1_1) (hA _ wd_3_9) (by decide +kernel) ⟨Nat.le_of_ble_eq_true rfl, Nat.le_of_ble_eq_true rfl⟩, hA _ wd_3_11, hA _ ws_16⟩ ⟨bl, recv_X8 hE hG t_h0, fun U hU9 hW9 => ⟨rfl, by rw [hU9]; exact hG, hE.go hS hU9 hW9⟩⟩ rfl rfl hl.1 rfl (lv_room (Nat.le_of_ble_eq_true rfl)) dX8_give_127 ⟨Nat.le_of_ble_eq_true rfl, Nat.le_of_ble_eq_true rfl⟩) hS (fun x64 u62 H locs w63 hG hS => ?_)
                    obtain ⟨Γ65, g66⟩ := u62
                    dsimp only at w63 hG
                    obtain ⟨hx67, hU, hf68, w69⟩ := w63
                    have hX71 : ext Γ Γ65 := ext.trans ext.rf hx67
                    replace t_b13 : ty Γ65 b13 2 := hx67.one t_b13 (by decide)
                    replace t_b9 : ty Γ65 b9 3 := hx67.one t_b9 (by decide)
                    replace t_h0 : ty Γ65 h0 1 := hx67.one t_h0 (by decide)
                    refine W.widen (k := 1) (n := 10) (by omega) (by omega) ?_
                    exact W.iret (v := x64) hx hb hr (fun t ht hW => ⟨⟨x64, (Γ65, g66), rfl, ⟨hX71, hU, (fun c j h3 h35 => by (try dsimp only); rw [hf68 c j h3 h35]), (by dsimp only; omega)⟩, ok2 ht hG⟩, hS.F ht⟩) hS.2.2 dX8_give_130
                  · skip
                    refine ty_bipush hx hb (-6) dX8_give_118 (by decide) (fun x72 h73 => ?_)
                    refine W.widen (k := 1) (n := 10) (by omega) (by omega) ?_
                    exact W.iret (v := x72) hx hb hr (fun t ht hW => ⟨⟨x72, (Γ, g), rfl, ⟨ext.rf, hU, (fun c j h3 h35 => by rfl), (by dsimp only; omega)⟩, ok2 ht hG⟩, hS.F ht⟩) hS.2.2 dX8_give_120
              · skip
                subst h44
                have t_b43 : ty Γ b43 4 := t_r39 b43 rfl
                have hl : lv_has ls 7 [(6, .ref b43), (5, .ref b13), (4, .ref b9), (0, .ref h0), (1, .int p1), (2, .int p2), (3, .int p3)] := hl
                refine lv_aload hx hb dX8_give_86 (lv_at hl 0 rfl) ?_
                refine get_X2_6 hx hb hA hown hE hG t_b43 wd_3_34 dX8_give_88 (fun x74 => ?_)
                refine ty_iconst hx hb (4) dX8_give_91 (by decide) (fun x75 h76 => ?_)
                refine ty_icmp_eq (tgt := 98) hx hb dX8_give_92 (by decide) (fun c77 => ?_) (fun c77 => ?_)
                · skip
                  refine lv_aload_n hx hb dX8_give_98 rfl (lv_at hl 3 rfl) ?_
                  refine get_X8_5 hx hb hA hown hE hG t_h0 wd_1_162 dX8_give_99 (fun x78 h79 => ?_)
                  refine ty_sipush hx hb (200) dX8_give_102 (by decide) (fun x81 h82 => ?_)
                  refine ty_icmp_ge (tgt := 118) hx hb dX8_give_105 (by decide) (fun c83 => ?_) (fun c83 => ?_)
                  · skip
                    refine ty_bipush hx hb (-6) dX8_give_118 (by decide) (fun x84 h85 => ?_)
                    refine W.widen (k := 1) (n := 10) (by omega) (by omega) ?_
                    exact W.iret (v := x84) hx hb hr (fun t ht hW => ⟨⟨x84, (Γ, g), rfl, ⟨ext.rf, hU, (fun c j h3 h35 => by rfl), (by dsimp only; omega)⟩, ok2 ht hG⟩, hS.F ht⟩) hS.2.2 dX8_give_120
                  · skip
                    refine lv_aload_n hx hb dX8_give_108 rfl (lv_at hl 3 rfl) ?_
                    refine ty_iconst hx hb (0) dX8_give_109 (by decide) (fun x86 h87 => ?_)
                    refine cI (va_runV (C := RX8) (As := [.int x86]) (rest := []) ⟨hx, hb, hml, hown, hA⟩ (k_X8_countGifts l dC dI dA sz X Γ hU g h0 t_h0 x86   (by omega)) ⟨callB_of 1 hA (al_A wd_3_8) rfl rfl rfl (hA _ wd_1_1) (hA _ wd_3_5) (by decide +kernel) ⟨Nat.le_of_ble_eq_true rfl, Nat.le_of_ble_eq_true rfl⟩, hA _ wd_3_7, hA _ ws_15⟩ ⟨bl, recv_X8 hE hG t_h0, fun U hU9 hW9 => ⟨rfl, by rw [hU9]; exact hG, hE.go hS hU9 hW9⟩⟩ rfl rfl hl.1 rfl (lv_room (Nat.le_of_ble_eq_true rfl)) dX8_give_110 ⟨Nat.zero_le _, Nat.zero_le _⟩) hS (fun x90 u88 H locs w89 hG hS => ?_)
                    have eu91 := w89
                    rw [eu91] at hG
                    refine ty_bipush hx hb (9) dX8_give_113 (by decide) (fun x92 h93 => ?_)
                    refine ty_icmp_lt (tgt := 121) hx hb dX8_give_115 (by decide) (fun c94 => ?_) (fun c94 => ?_)
                    · skip
                      refine lv_aload_n hx hb dX8_give_121 rfl (lv_at hl 3 rfl) ?_
                      refine lv_aload hx hb dX8_give_122 (lv_at hl 2 rfl) ?_
                      refine lv_aload hx hb dX8_give_124 (lv_at hl 1 rfl) ?_
                      refine lv_iload_n hx hb dX8_give_126 rfl (lv_at hl 6 rfl) ?_
                      refine cIB (va_runV (C := RX8) (As := [.ref b9, .ref b13, .int p3]) (rest := []) ⟨hx, hb, hml, hown, hA⟩ (k_X8_addGift l dC dI dA sz X Γ hU g h0 t_h0 b9 t_b9 b13 t_b13 p3   (by omega) (by omega)) ⟨callB_of 3 hA (al_A wd_3_12) rfl rfl rfl (hA _ wd_1_1) (hA _ wd_3_9) (by decide +kernel) ⟨Nat.le_of_ble_eq_true rfl, Nat.le_of_ble_eq_true rfl⟩, hA _ wd_3_11, hA _ ws_16⟩ ⟨bl, recv_X8 hE hG t_h0, fun U hU9 hW9 => ⟨rfl, by rw [hU9]; exact hG, hE.go hS hU9 hW9⟩⟩ rfl rfl hl.1 rfl (lv_room (Nat.le_of_ble_eq_true rfl)) dX8_give_127 ⟨Nat.le_of_ble_eq_true rfl, Nat.le_of_ble_eq_true rfl⟩) hS (fun x97 u95 H locs w96 hG hS => ?_)
                      obtain ⟨Γ98, g99⟩ := u95
                      dsimp only at w96 hG
                      obtain ⟨hx100, hU, hf101, w102⟩ := w96
                      have hX104 : ext Γ Γ98 := ext.trans ext.rf hx100
                      replace t_b43 : ty Γ98 b43 4 := hx100.one t_b43 (by decide)
                      replace t_b13 : ty Γ98 b13 2 := hx100.one t_b13 (by decide)
                      replace t_b9 : ty Γ98 b9 3 := hx100.one t_b9 (by decide)
                      replace t_h0 : ty Γ98 h0 1 := hx100.one t_h0 (by decide)
                      refine W.widen (k := 1) (n := 10) (by omega) (by omega) ?_
                      exact W.iret (v := x97) hx hb hr (fun t ht hW => ⟨⟨x97, (Γ98, g99), rfl, ⟨hX104, hU, (fun c j h3 h35 => by (try dsimp only); rw [hf101 c j h3 h35]), (by dsimp only; omega)⟩, ok2 ht hG⟩, hS.F ht⟩) hS.2.2 dX8_give_130
                    · skip
                      refine ty_bipush hx hb (-6) dX8_give_118 (by decide) (fun x105 h106 => ?_)
                      refine W.widen (k := 1) (n := 10) (by omega) (by omega) ?_
                      exact W.iret (v := x105) hx hb hr (fun t ht hW => ⟨⟨x105, (Γ, g), rfl, ⟨ext.rf, hU, (fun c j h3 h35 => by rfl), (by dsimp only; omega)⟩, ok2 ht hG⟩, hS.F ht⟩) hS.2.2 dX8_give_120
                · skip
                  refine ty_bipush hx hb (-5) dX8_give_95 (by decide) (fun x107 h108 => ?_)
                  refine W.widen (k := 1) (n := 10) (by omega) (by omega) ?_
                  exact W.iret (v := x107) hx hb hr (fun t ht hW => ⟨⟨x107, (Γ, g), rfl, ⟨ext.rf, hU, (fun c j h3 h35 => by rfl), (by dsimp only; omega)⟩, ok2 ht hG⟩, hS.F ht⟩) hS.2.2 dX8_give_97
            · skip
              refine ty_bipush hx hb (-4) dX8_give_69 (by decide) (fun x109 h110 => ?_)
              refine W.widen (k := 1) (n := 10) (by omega) (by omega) ?_
              exact W.iret (v := x109) hx hb hr (fun t ht hW => ⟨⟨x109, (Γ, g), rfl, ⟨ext.rf, hU, (fun c j h3 h35 => by rfl), (by dsimp only; omega)⟩, ok2 ht hG⟩, hS.F ht⟩) hS.2.2 dX8_give_71
          · skip
            refine ty_bipush hx hb (-3) dX8_give_56 (by decide) (fun x111 h112 => ?_)
            refine W.widen (k := 1) (n := 10) (by omega) (by omega) ?_
            exact W.iret (v := x111) hx hb hr (fun t ht hW => ⟨⟨x111, (Γ, g), rfl, ⟨ext.rf, hU, (fun c j h3 h35 => by rfl), (by dsimp only; omega)⟩, ok2 ht hG⟩, hS.F ht⟩) hS.2.2 dX8_give_58
        · skip
          refine ty_bipush hx hb (-2) dX8_give_45 (by decide) (fun x113 h114 => ?_)
          refine W.widen (k := 1) (n := 10) (by omega) (by omega) ?_
          exact W.iret (v := x113) hx hb hr (fun t ht hW => ⟨⟨x113, (Γ, g), rfl, ⟨ext.rf, hU, (fun c j h3 h35 => by rfl), (by dsimp only; omega)⟩, ok2 ht hG⟩, hS.F ht⟩) hS.2.2 dX8_give_47
      · skip
        refine ty_iconst hx hb (-1) dX8_give_31 (by decide) (fun x115 h116 => ?_)
        refine W.widen (k := 1) (n := 10) (by omega) (by omega) ?_
        exact W.iret (v := x115) hx hb hr (fun t ht hW => ⟨⟨x115, (Γ, g), rfl, ⟨ext.rf, hU, (fun c j h3 h35 => by rfl), (by dsimp only; omega)⟩, ok2 ht hG⟩, hS.F ht⟩) hS.2.2 dX8_give_32

set_option maxHeartbeats 4000000 in
set_option maxRecDepth 100000 in
/-- WeekBank.wish:  -/
theorem k_X8_wish (l : Launch) (dC : Nat → ClassId) (dI : Nat → Nat → Nat) (dA : Nat → ClassId) (sz : Nat) (X : va_W) (Γ : ty_G) (hU : Un Γ) (g : gh) (h0 : Nat) (t_h0 : ty Γ h0 1) (p1 : Int32) (p2 : Int32) (p3 : Int32) (p4 : Int32) (p5 : Int32) (g3 : g 3 0 = g 35 0 ∧ 0 ≤ g 3 0 ∧ g 3 0 ≤ 200) : Met l yX8_wish (.code yX8_wish cX8_wish 7 (Option.some Jvm.ClassFile.FieldType.boolean) :: AL) ({ frames := 2, cells := 1, slots := 4, locals := 44 }) (PCx dC dI dA sz X Γ g [.ref h0, .int p1, .int p2, .int p3, .int p4, .int p5]) (va_Qi (fun (r : Int32) (u : (ty_G × gh)) => ext Γ u.1 ∧ Un u.1 ∧ u.2 = g) (okB dC dI dA sz X) (ty_A sz)) 1 4 (ty_A sz) := by
  refine Met.ofW (cc := cX8_wish) (maxL := 7) (ret := (Option.some Jvm.ClassFile.FieldType.boolean)) (by decide) rfl ?_
  intro p e s m args below meth c s₁ B hml hv
  obtain ⟨rfl, hG, hE⟩ := hv
  have hx := B.exec
  have hb := B.bytes
  have hr := B.returns
  have hts := atoms_spec B.pre
  have hA : ∀ w ∈ AL, w.before _ s = true := fun w h => hts w (List.mem_cons_of_mem _ h)
  have hown : s.vm.findClass RX8 = some m.cls := findClass_of_methodNamed B.named
  have hlocks := B.notSynchronized
  have hS : va_S (ty_A sz) s.heap s.heap [] := va_S.rf
  have hl := lv_entry ([.ref h0, .int p1, .int p2, .int p3, .int p4, .int p5]) (n := 7) (Nat.le_of_ble_eq_true rfl)
  rw [lg_entry_eq]
  generalize (lg_sl ([.ref h0, .int p1, .int p2, .int p3, .int p4, .int p5]) ++ List.replicate (7 - (lg_sl ([.ref h0, .int p1, .int p2, .int p3, .int p4, .int p5])).length) Slot.unset).toArray = ls at hl ⊢
  have hl : lv_has ls 7 [(0, .ref h0), (1, .int p1), (2, .int p2), (3, .int p3), (4, .int p4), (5, .int p5)] := hl
  refine lv_aload_n hx hb dX8_wish_0 rfl (lv_at hl 0 rfl) ?_
  refine lv_iload_n hx hb dX8_wish_1 rfl (lv_at hl 1 rfl) ?_
  refine ty_iconst hx hb (0) dX8_wish_2 (by decide) (fun x1 h2 => ?_)
  refine cQ (va_runV (C := RX8) (As := [.int p1, .int x1]) (rest := []) ⟨hx, hb, hml, hown, hA⟩ (k_X8_giftThatIs l dC dI dA sz X Γ hU g h0 t_h0 p1 x1   (by omega)) ⟨callB_of 2 hA (al_A wd_3_72) rfl rfl rfl (hA _ wd_1_1) (hA _ wd_3_69) (by decide +kernel) ⟨Nat.le_of_ble_eq_true rfl, Nat.le_of_ble_eq_true rfl⟩, hA _ wd_3_71, hA _ ws_17⟩ ⟨bl, recv_X8 hE hG t_h0, fun U hU9 hW9 => ⟨rfl, by rw [hU9]; exact hG, hE.go hS hU9 hW9⟩⟩ rfl rfl hl.1 rfl (lv_room (Nat.le_of_ble_eq_true rfl)) dX8_wish_3 ⟨Nat.zero_le _, Nat.zero_le _⟩) hS (fun r5 u3 H locs w4 hG hS => ?_)
  obtain ⟨t_r5, w4⟩ := w4
  have eu6 := w4
  rw [eu6] at hG
  refine ty_astoreq (lv' := [(6, va_rf r5), (0, .ref h0), (1, .int p1), (2, .int p2), (3, .int p3), (4, .int p4), (5, .int p5)]) hx hb dX8_wish_6 hl (by decide) rfl (fun ls hl => ?_)
  refine ty_aloadq hx hb dX8_wish_8 (lv_at hl 0 rfl) ?_
  refine ty_ifnull (tgt := 25) hx hb dX8_wish_10 (by decide) (fun h8 => ?_) (fun b7 h8 => ?_)
  · skip
    subst h8
    have hl : lv_has ls 7 [(6, .null), (0, .ref h0), (1, .int p1), (2, .int p2), (3, .int p3), (4, .int p4), (5, .int p5)] := hl
    refine ty_iconst hx hb (0) dX8_wish_25 (by decide) (fun x9 h10 => ?_)
    refine W.widen (k := 1) (n := 4) (by omega) (by omega) ?_
    exact W.zret (v := x9) hx hb hr (ty_nb (by omega)).1 (fun t ht hW => ⟨⟨x9, (Γ, g), rfl, ⟨ext.rf, hU, rfl⟩, ok2 ht hG⟩, hS.F ht⟩) hS.2.2 dX8_wish_26
  · skip
    subst h8
    have t_b7 : ty Γ b7 4 := t_r5 b7 rfl
    have hl : lv_has ls 7 [(6, .ref b7), (0, .ref h0), (1, .int p1), (2, .int p2), (3, .int p3), (4, .int p4), (5, .int p5)] := hl
    refine lv_iload_n hx hb dX8_wish_13 rfl (lv_at hl 3 rfl) ?_
    refine lv_iload_n hx hb dX8_wish_14 rfl (lv_at hl 4 rfl) ?_
    refine lv_iload hx hb dX8_wish_15 (lv_at hl 5 rfl) ?_
    refine lv_iload hx hb dX8_wish_17 (lv_at hl 6 rfl) ?_
    refine cI (va_runS (As := [.int p2, .int p3, .int p4, .int p5]) (rest := []) ⟨hx, hb, hml, hown, hA⟩ (k_X8_canBeWished l dC dI dA sz X Γ hU g p2 p3 p4 p5   ) ⟨callB_of 4 hA (al_A wd_3_79) rfl rfl rfl (hA _ wd_1_1) (hA _ wd_3_77) (by decide +kernel) ⟨Nat.le_of_ble_eq_true rfl, Nat.le_of_ble_eq_true rfl⟩, hA _ wd_3_78⟩ ⟨bl, fun U hU9 hW9 => ⟨rfl, by rw [hU9]; exact hG, hE.go hS hU9 hW9⟩⟩ rfl rfl hl.1 rfl (lv_room (Nat.le_of_ble_eq_true rfl)) dX8_wish_19 ⟨Nat.zero_le _, Nat.zero_le _⟩) hS (fun x13 u11 H locs w12 hG hS => ?_)
    obtain ⟨eu14, w12⟩ := w12
    rw [eu14] at hG
    refine ty_if_ne (tgt := 27) hx hb dX8_wish_22 (by decide) (fun c15 => ?_) (fun c15 => ?_)
    · skip
      refine lv_aload hx hb dX8_wish_27 (lv_at hl 0 rfl) ?_
      refine new_X7 hx hb hA hE hG hS hown wd_3_80 wd_3_81 wd_1_16 (Nat.le_of_ble_eq_true rfl) (Nat.le_of_ble_eq_true rfl) dX8_wish_29 (fun q16 H z_q16 s_q16 e_q16 hG hS => ?_)
      clear z_q16 s_q16 e_q16
      refine lv_dup hx hb dX8_wish_32 rfl ?_
      refine lv_iload_n hx hb dX8_wish_33 rfl (lv_at hl 3 rfl) ?_
      refine lv_iload_n hx hb dX8_wish_34 rfl (lv_at hl 4 rfl) ?_
      refine lv_iload hx hb dX8_wish_35 (lv_at hl 5 rfl) ?_
      refine lv_iload hx hb dX8_wish_37 (lv_at hl 6 rfl) ?_
      refine cVB (va_runI (As := [.int p2, .int p3, .int p4, .int p5]) (rest := [.ref q16, .ref b7]) ⟨hx, hb, hml, hown, hA⟩ (k_X7_init l dC dI dA sz X Γ hU g q16 p2 p3 p4 p5   ) ⟨callB_of 4 hA (al_A wd_3_84) rfl rfl rfl (hA _ wd_1_16) (hA _ wd_3_82) (by decide +kernel) ⟨Nat.le_of_ble_eq_true rfl, Nat.le_of_ble_eq_true rfl⟩, rfl, hA _ wd_3_83⟩ ⟨bl, fun U hU9 hW9 => ⟨rfl, by rw [hU9]; exact hG, hE.go hS hU9 hW9⟩⟩ rfl rfl hl.1 rfl (lv_room (Nat.le_of_ble_eq_true rfl)) dX8_wish_39 ⟨Nat.le_of_ble_eq_true rfl, Nat.le_of_ble_eq_true rfl⟩) hS (fun u17 H locs w18 hG hS => ?_)
      obtain ⟨Γ19, g20⟩ := u17
      dsimp only at w18 hG
      obtain ⟨hx21, hU, t_q16, eu25⟩ := w18
      rw [eu25] at hG
      replace t_q16 : ty Γ19 q16 5 := t_q16
      have hX26 : ext Γ Γ19 := ext.trans ext.rf hx21
      replace t_b7 : ty Γ19 b7 4 := hx21.one t_b7 (by decide)
      replace t_h0 : ty Γ19 h0 1 := hx21.one t_h0 (by decide)
      refine put_X2_7 (r := some q16) hx hb hA hown hE hG hS t_b7 wd_3_37 (fun _ h => by cases h; exact t_q16) dX8_wish_42 (fun H locs hG hS => ?_)
      refine ty_iconst hx hb (1) dX8_wish_45 (by decide) (fun x27 h28 => ?_)
      refine W.widen (k := 1) (n := 4) (by omega) (by omega) ?_
      exact W.zret (v := x27) hx hb hr (ty_nb (by omega)).1 (fun t ht hW => ⟨⟨x27, (Γ19, g), rfl, ⟨hX26, hU, rfl⟩, ok2 ht hG⟩, hS.F ht⟩) hS.2.2 dX8_wish_46
    · skip
      refine ty_iconst hx hb (0) dX8_wish_25 (by decide) (fun x29 h30 => ?_)
      refine W.widen (k := 1) (n := 4) (by omega) (by omega) ?_
      exact W.zret (v := x29) hx hb hr (ty_nb (by omega)).1 (fun t ht hW => ⟨⟨x29, (Γ, g), rfl, ⟨ext.rf, hU, rfl⟩, ok2 ht hG⟩, hS.F ht⟩) hS.2.2 dX8_wish_26

set_option maxHeartbeats 4000000 in
set_option maxRecDepth 100000 in
/-- WeekBank.rushWish:  -/
theorem k_X8_rushWish (l : Launch) (dC : Nat → ClassId) (dI : Nat → Nat → Nat) (dA : Nat → ClassId) (sz : Nat) (X : va_W) (Γ : ty_G) (hU : Un Γ) (g : gh) (h0 : Nat) (t_h0 : ty Γ h0 1) (p1 : Int32) (p2 : Int32) (p3 : Int32) (p4 : Int32) (p5 : Int32) (g2 : g 2 0 = g 34 0 ∧ 0 ≤ g 2 0 ∧ g 2 0 ≤ 10) : Met l yX8_rushWish (.code yX8_rushWish cX8_rushWish 7 (Option.some Jvm.ClassFile.FieldType.boolean) :: AL) ({ frames := 2, cells := 1, slots := 4, locals := 44 }) (PCx dC dI dA sz X Γ g [.ref h0, .int p1, .int p2, .int p3, .int p4, .int p5]) (va_Qi (fun (r : Int32) (u : (ty_G × gh)) => ext Γ u.1 ∧ Un u.1 ∧ u.2 = g) (okB dC dI dA sz X) (ty_A sz)) 1 4 (ty_A sz) := by
  refine Met.ofW (cc := cX8_rushWish) (maxL := 7) (ret := (Option.some Jvm.ClassFile.FieldType.boolean)) (by decide) rfl ?_
  intro p e s m args below meth c s₁ B hml hv
  obtain ⟨rfl, hG, hE⟩ := hv
  have hx := B.exec
  have hb := B.bytes
  have hr := B.returns
  have hts := atoms_spec B.pre
  have hA : ∀ w ∈ AL, w.before _ s = true := fun w h => hts w (List.mem_cons_of_mem _ h)
  have hown : s.vm.findClass RX8 = some m.cls := findClass_of_methodNamed B.named
  have hlocks := B.notSynchronized
  have hS : va_S (ty_A sz) s.heap s.heap [] := va_S.rf
  have hl := lv_entry ([.ref h0, .int p1, .int p2, .int p3, .int p4, .int p5]) (n := 7) (Nat.le_of_ble_eq_true rfl)
  rw [lg_entry_eq]
  generalize (lg_sl ([.ref h0, .int p1, .int p2, .int p3, .int p4, .int p5]) ++ List.replicate (7 - (lg_sl ([.ref h0, .int p1, .int p2, .int p3, .int p4, .int p5])).length) Slot.unset).toArray = ls at hl ⊢
  have hl : lv_has ls 7 [(0, .ref h0), (1, .int p1), (2, .int p2), (3, .int p3), (4, .int p4), (5, .int p5)] := hl
  refine lv_aload_n hx hb dX8_rushWish_0 rfl (lv_at hl 0 rfl) ?_
  refine lv_iload_n hx hb dX8_rushWish_1 rfl (lv_at hl 1 rfl) ?_
  refine cQ (va_runV (C := RX8) (As := [.int p1]) (rest := []) ⟨hx, hb, hml, hown, hA⟩ (k_X8_livingOwnerAt l dC dI dA sz X Γ hU g h0 t_h0 p1   (by omega)) ⟨callB_of 1 hA (al_A wd_2_52) rfl rfl rfl (hA _ wd_1_1) (hA _ wd_2_49) (by decide +kernel) ⟨Nat.le_of_ble_eq_true rfl, Nat.le_of_ble_eq_true rfl⟩, hA _ wd_2_51, hA _ ws_1⟩ ⟨bl, recv_X8 hE hG t_h0, fun U hU9 hW9 => ⟨rfl, by rw [hU9]; exact hG, hE.go hS hU9 hW9⟩⟩ rfl rfl hl.1 rfl (lv_room (Nat.le_of_ble_eq_true rfl)) dX8_rushWish_2 ⟨Nat.zero_le _, Nat.zero_le _⟩) hS (fun r3 u1 H locs w2 hG hS => ?_)
  obtain ⟨t_r3, w2⟩ := w2
  have eu4 := w2
  rw [eu4] at hG
  refine ty_astoreq (lv' := [(6, va_rf r3), (0, .ref h0), (1, .int p1), (2, .int p2), (3, .int p3), (4, .int p4), (5, .int p5)]) hx hb dX8_rushWish_5 hl (by decide) rfl (fun ls hl => ?_)
  refine ty_aloadq hx hb dX8_rushWish_7 (lv_at hl 0 rfl) ?_
  refine ty_ifnull (tgt := 24) hx hb dX8_rushWish_9 (by decide) (fun h6 => ?_) (fun b5 h6 => ?_)
  · skip
    subst h6
    have hl : lv_has ls 7 [(6, .null), (0, .ref h0), (1, .int p1), (2, .int p2), (3, .int p3), (4, .int p4), (5, .int p5)] := hl
    refine ty_iconst hx hb (0) dX8_rushWish_24 (by decide) (fun x7 h8 => ?_)
    refine W.widen (k := 1) (n := 4) (by omega) (by omega) ?_
    exact W.zret (v := x7) hx hb hr (ty_nb (by omega)).1 (fun t ht hW => ⟨⟨x7, (Γ, g), rfl, ⟨ext.rf, hU, rfl⟩, ok2 ht hG⟩, hS.F ht⟩) hS.2.2 dX8_rushWish_25
  · skip
    subst h6
    have t_b5 : ty Γ b5 3 := t_r3 b5 rfl
    have hl : lv_has ls 7 [(6, .ref b5), (0, .ref h0), (1, .int p1), (2, .int p2), (3, .int p3), (4, .int p4), (5, .int p5)] := hl
    refine lv_iload_n hx hb dX8_rushWish_12 rfl (lv_at hl 3 rfl) ?_
    refine lv_iload_n hx hb dX8_rushWish_13 rfl (lv_at hl 4 rfl) ?_
    refine lv_iload hx hb dX8_rushWish_14 (lv_at hl 5 rfl) ?_
    refine lv_iload hx hb dX8_rushWish_16 (lv_at hl 6 rfl) ?_
    refine cI (va_runS (As := [.int p2, .int p3, .int p4, .int p5]) (rest := []) ⟨hx, hb, hml, hown, hA⟩ (k_X8_canBeWished l dC dI dA sz X Γ hU g p2 p3 p4 p5   ) ⟨callB_of 4 hA (al_A wd_3_79) rfl rfl rfl (hA _ wd_1_1) (hA _ wd_3_77) (by decide +kernel) ⟨Nat.le_of_ble_eq_true rfl, Nat.le_of_ble_eq_true rfl⟩, hA _ wd_3_78⟩ ⟨bl, fun U hU9 hW9 => ⟨rfl, by rw [hU9]; exact hG, hE.go hS hU9 hW9⟩⟩ rfl rfl hl.1 rfl (lv_room (Nat.le_of_ble_eq_true rfl)) dX8_rushWish_18 ⟨Nat.zero_le _, Nat.zero_le _⟩) hS (fun x11 u9 H locs w10 hG hS => ?_)
    obtain ⟨eu12, w10⟩ := w10
    rw [eu12] at hG
    refine ty_if_ne (tgt := 26) hx hb dX8_rushWish_21 (by decide) (fun c13 => ?_) (fun c13 => ?_)
    · skip
      refine lv_aload hx hb dX8_rushWish_26 (lv_at hl 0 rfl) ?_
      refine new_X7 hx hb hA hE hG hS hown wd_3_80 wd_3_81 wd_1_16 (Nat.le_of_ble_eq_true rfl) (Nat.le_of_ble_eq_true rfl) dX8_rushWish_28 (fun q14 H z_q14 s_q14 e_q14 hG hS => ?_)
      clear z_q14 s_q14 e_q14
      refine lv_dup hx hb dX8_rushWish_31 rfl ?_
      refine lv_iload_n hx hb dX8_rushWish_32 rfl (lv_at hl 3 rfl) ?_
      refine lv_iload_n hx hb dX8_rushWish_33 rfl (lv_at hl 4 rfl) ?_
      refine lv_iload hx hb dX8_rushWish_34 (lv_at hl 5 rfl) ?_
      refine lv_iload hx hb dX8_rushWish_36 (lv_at hl 6 rfl) ?_
      refine cVB (va_runI (As := [.int p2, .int p3, .int p4, .int p5]) (rest := [.ref q14, .ref b5]) ⟨hx, hb, hml, hown, hA⟩ (k_X7_init l dC dI dA sz X Γ hU g q14 p2 p3 p4 p5   ) ⟨callB_of 4 hA (al_A wd_3_84) rfl rfl rfl (hA _ wd_1_16) (hA _ wd_3_82) (by decide +kernel) ⟨Nat.le_of_ble_eq_true rfl, Nat.le_of_ble_eq_true rfl⟩, rfl, hA _ wd_3_83⟩ ⟨bl, fun U hU9 hW9 => ⟨rfl, by rw [hU9]; exact hG, hE.go hS hU9 hW9⟩⟩ rfl rfl hl.1 rfl (lv_room (Nat.le_of_ble_eq_true rfl)) dX8_rushWish_38 ⟨Nat.le_of_ble_eq_true rfl, Nat.le_of_ble_eq_true rfl⟩) hS (fun u15 H locs w16 hG hS => ?_)
      obtain ⟨Γ17, g18⟩ := u15
      dsimp only at w16 hG
      obtain ⟨hx19, hU, t_q14, eu23⟩ := w16
      rw [eu23] at hG
      replace t_q14 : ty Γ17 q14 5 := t_q14
      have hX24 : ext Γ Γ17 := ext.trans ext.rf hx19
      replace t_b5 : ty Γ17 b5 3 := hx19.one t_b5 (by decide)
      replace t_h0 : ty Γ17 h0 1 := hx19.one t_h0 (by decide)
      refine put_X3_7 (r := some q14) hx hb hA hown hE hG hS t_b5 wd_2_23 (fun _ h => by cases h; exact t_q14) dX8_rushWish_41 (fun H locs hG hS => ?_)
      refine ty_iconst hx hb (1) dX8_rushWish_44 (by decide) (fun x25 h26 => ?_)
      refine W.widen (k := 1) (n := 4) (by omega) (by omega) ?_
      exact W.zret (v := x25) hx hb hr (ty_nb (by omega)).1 (fun t ht hW => ⟨⟨x25, (Γ17, g), rfl, ⟨hX24, hU, rfl⟩, ok2 ht hG⟩, hS.F ht⟩) hS.2.2 dX8_rushWish_45
    · skip
      refine ty_iconst hx hb (0) dX8_rushWish_24 (by decide) (fun x27 h28 => ?_)
      refine W.widen (k := 1) (n := 4) (by omega) (by omega) ?_
      exact W.zret (v := x27) hx hb hr (ty_nb (by omega)).1 (fun t ht hW => ⟨⟨x27, (Γ, g), rfl, ⟨ext.rf, hU, rfl⟩, ok2 ht hG⟩, hS.F ht⟩) hS.2.2 dX8_rushWish_25

set_option maxHeartbeats 4000000 in
set_option maxRecDepth 100000 in
/-- WeekBank.bank:  -/
theorem k_X8_bank (l : Launch) (dC : Nat → ClassId) (dI : Nat → Nat → Nat) (dA : Nat → ClassId) (sz : Nat) (X : va_W) (Γ : ty_G) (hU : Un Γ) (g : gh) (h0 : Nat) (t_h0 : ty Γ h0 1) (p1 : Int32) (g3 : g 3 0 = g 35 0 ∧ 0 ≤ g 3 0 ∧ g 3 0 ≤ 200) : Met l yX8_bank (.code yX8_bank cX8_bank 3 (Option.some Jvm.ClassFile.FieldType.int) :: AL) ({ frames := 2, cells := 0, slots := 0, locals := 44 }) (PCx dC dI dA sz X Γ g [.ref h0, .int p1]) (va_Qi (fun (r : Int32) (u : gh) => u = g) (okb dC dI dA sz X Γ) (ty_A sz)) 0 0 (ty_A sz) := by
  refine Met.ofW (cc := cX8_bank) (maxL := 3) (ret := (Option.some Jvm.ClassFile.FieldType.int)) (by decide) rfl ?_
  intro p e s m args below meth c s₁ B hml hv
  obtain ⟨rfl, hG, hE⟩ := hv
  have hx := B.exec
  have hb := B.bytes
  have hr := B.returns
  have hts := atoms_spec B.pre
  have hA : ∀ w ∈ AL, w.before _ s = true := fun w h => hts w (List.mem_cons_of_mem _ h)
  have hown : s.vm.findClass RX8 = some m.cls := findClass_of_methodNamed B.named
  have hlocks := B.notSynchronized
  have hS : va_S (ty_A sz) s.heap s.heap [] := va_S.rf
  have hl := lv_entry ([.ref h0, .int p1]) (n := 3) (Nat.le_of_ble_eq_true rfl)
  rw [lg_entry_eq]
  generalize (lg_sl ([.ref h0, .int p1]) ++ List.replicate (3 - (lg_sl ([.ref h0, .int p1])).length) Slot.unset).toArray = ls at hl ⊢
  have hl : lv_has ls 3 [(0, .ref h0), (1, .int p1)] := hl
  refine lv_aload_n hx hb dX8_bank_0 rfl (lv_at hl 0 rfl) ?_
  refine lv_iload_n hx hb dX8_bank_1 rfl (lv_at hl 1 rfl) ?_
  refine ty_iconst hx hb (0) dX8_bank_2 (by decide) (fun x1 h2 => ?_)
  refine cQ (va_runV (C := RX8) (As := [.int p1, .int x1]) (rest := []) ⟨hx, hb, hml, hown, hA⟩ (k_X8_giftThatIs l dC dI dA sz X Γ hU g h0 t_h0 p1 x1   (by omega)) ⟨callB_of 2 hA (al_A wd_3_72) rfl rfl rfl (hA _ wd_1_1) (hA _ wd_3_69) (by decide +kernel) ⟨Nat.le_of_ble_eq_true rfl, Nat.le_of_ble_eq_true rfl⟩, hA _ wd_3_71, hA _ ws_17⟩ ⟨bl, recv_X8 hE hG t_h0, fun U hU9 hW9 => ⟨rfl, by rw [hU9]; exact hG, hE.go hS hU9 hW9⟩⟩ rfl rfl hl.1 rfl (lv_room (Nat.le_of_ble_eq_true rfl)) dX8_bank_3 ⟨Nat.zero_le _, Nat.zero_le _⟩) hS (fun r5 u3 H locs w4 hG hS => ?_)
  obtain ⟨t_r5, w4⟩ := w4
  have eu6 := w4
  rw [eu6] at hG
  refine ty_astore_nq (lv' := [(2, va_rf r5), (0, .ref h0), (1, .int p1)]) hx hb dX8_bank_6 rfl hl (by decide) rfl (fun ls hl => ?_)
  refine ty_aload_nq hx hb dX8_bank_7 rfl (lv_at hl 0 rfl) ?_
  refine ty_ifnonnull (tgt := 13) hx hb dX8_bank_8 (by decide) (fun b7 h8 => ?_) (fun h8 => ?_)
  · skip
    subst h8
    have t_b7 : ty Γ b7 4 := t_r5 b7 rfl
    have hl : lv_has ls 3 [(2, .ref b7), (0, .ref h0), (1, .int p1)] := hl
    refine lv_aload_n hx hb dX8_bank_13 rfl (lv_at hl 0 rfl) ?_
    refine ty_iconst hx hb (2) dX8_bank_14 (by decide) (fun x9 h10 => ?_)
    refine put_X2_6 hx hb hA hown hE hG hS t_b7 wd_3_34 dX8_bank_15 (fun H locs hG hS => ?_)
    refine lv_aload_n hx hb dX8_bank_18 rfl (lv_at hl 0 rfl) ?_
    refine get_X2_1 hx hb hA hown hE hG t_b7 wd_3_22 dX8_bank_19 (fun b11 (t_b11 : ty Γ b11 3) => ?_)
    refine lv_dup hx hb dX8_bank_22 rfl ?_
    refine get_X3_2 hx hb hA hown hE hG t_b11 wd_2_12 dX8_bank_23 (fun x12 => ?_)
    refine lv_aload_n hx hb dX8_bank_26 rfl (lv_at hl 0 rfl) ?_
    refine get_X2_5 hx hb hA hown hE hG t_b7 wd_3_30 dX8_bank_27 (fun x13 => ?_)
    refine ty_iadd hx hb dX8_bank_30 (fun x14 h15 => ?_)
    refine put_X3_2 hx hb hA hown hE hG hS t_b11 wd_2_12 dX8_bank_31 (fun H locs hG hS => ?_)
    refine lv_aload_n hx hb dX8_bank_34 rfl (lv_at hl 0 rfl) ?_
    refine get_X2_1 hx hb hA hown hE hG t_b7 wd_3_22 dX8_bank_35 (fun b17 (t_b17 : ty Γ b17 3) => ?_)
    refine get_X3_2 hx hb hA hown hE hG t_b17 wd_2_12 dX8_bank_38 (fun x18 => ?_)
    exact W.iret (v := x18) hx hb hr (fun t ht hW => ⟨⟨x18, g, rfl, rfl, ok1 ht hG⟩, hS.F ht⟩) hS.2.2 dX8_bank_41
  · skip
    subst h8
    have hl : lv_has ls 3 [(2, .null), (0, .ref h0), (1, .int p1)] := hl
    refine ty_iconst hx hb (-1) dX8_bank_11 (by decide) (fun x19 h20 => ?_)
    exact W.iret (v := x19) hx hb hr (fun t ht hW => ⟨⟨x19, g, rfl, rfl, ok1 ht hG⟩, hS.F ht⟩) hS.2.2 dX8_bank_12

set_option maxHeartbeats 4000000 in
set_option maxRecDepth 100000 in
/-- WeekBank.take:  -/
theorem k_X8_take (l : Launch) (dC : Nat → ClassId) (dI : Nat → Nat → Nat) (dA : Nat → ClassId) (sz : Nat) (X : va_W) (Γ : ty_G) (hU : Un Γ) (g : gh) (h0 : Nat) (t_h0 : ty Γ h0 1) (p1 : Int32) (p2 : Int32) (g2 : g 2 0 = g 34 0 ∧ 0 ≤ g 2 0 ∧ g 2 0 ≤ 10) (g3 : g 3 0 = g 35 0 ∧ 0 ≤ g 3 0 ∧ g 3 0 ≤ 200) : Met l yX8_take (.code yX8_take cX8_take 5 (Option.some Jvm.ClassFile.FieldType.int) :: AL) ({ frames := 2, cells := 0, slots := 0, locals := 44 }) (PCx dC dI dA sz X Γ g [.ref h0, .int p1, .int p2]) (va_Qi (fun (r : Int32) (u : gh) => u = g) (okb dC dI dA sz X Γ) (ty_A sz)) 0 0 (ty_A sz) := by
  refine Met.ofW (cc := cX8_take) (maxL := 5) (ret := (Option.some Jvm.ClassFile.FieldType.int)) (by decide) rfl ?_
  intro p e s m args below meth c s₁ B hml hv
  obtain ⟨rfl, hG, hE⟩ := hv
  have hx := B.exec
  have hb := B.bytes
  have hr := B.returns
  have hts := atoms_spec B.pre
  have hA : ∀ w ∈ AL, w.before _ s = true := fun w h => hts w (List.mem_cons_of_mem _ h)
  have hown : s.vm.findClass RX8 = some m.cls := findClass_of_methodNamed B.named
  have hlocks := B.notSynchronized
  have hS : va_S (ty_A sz) s.heap s.heap [] := va_S.rf
  have hl := lv_entry ([.ref h0, .int p1, .int p2]) (n := 5) (Nat.le_of_ble_eq_true rfl)
  rw [lg_entry_eq]
  generalize (lg_sl ([.ref h0, .int p1, .int p2]) ++ List.replicate (5 - (lg_sl ([.ref h0, .int p1, .int p2])).length) Slot.unset).toArray = ls at hl ⊢
  have hl : lv_has ls 5 [(0, .ref h0), (1, .int p1), (2, .int p2)] := hl
  refine lv_aload_n hx hb dX8_take_0 rfl (lv_at hl 0 rfl) ?_
  refine lv_iload_n hx hb dX8_take_1 rfl (lv_at hl 1 rfl) ?_
  refine cQ (va_runV (C := RX8) (As := [.int p1]) (rest := []) ⟨hx, hb, hml, hown, hA⟩ (k_X8_livingOwnerAt l dC dI dA sz X Γ hU g h0 t_h0 p1   (by omega)) ⟨callB_of 1 hA (al_A wd_2_52) rfl rfl rfl (hA _ wd_1_1) (hA _ wd_2_49) (by decide +kernel) ⟨Nat.le_of_ble_eq_true rfl, Nat.le_of_ble_eq_true rfl⟩, hA _ wd_2_51, hA _ ws_1⟩ ⟨bl, recv_X8 hE hG t_h0, fun U hU9 hW9 => ⟨rfl, by rw [hU9]; exact hG, hE.go hS hU9 hW9⟩⟩ rfl rfl hl.1 rfl (lv_room (Nat.le_of_ble_eq_true rfl)) dX8_take_2 ⟨Nat.zero_le _, Nat.zero_le _⟩) hS (fun r3 u1 H locs w2 hG hS => ?_)
  obtain ⟨t_r3, w2⟩ := w2
  have eu4 := w2
  rw [eu4] at hG
  refine ty_astore_nq (lv' := [(3, va_rf r3), (0, .ref h0), (1, .int p1), (2, .int p2)]) hx hb dX8_take_5 rfl hl (by decide) rfl (fun ls hl => ?_)
  refine lv_aload_n hx hb dX8_take_6 rfl (lv_at hl 1 rfl) ?_
  refine lv_iload_n hx hb dX8_take_7 rfl (lv_at hl 3 rfl) ?_
  refine ty_iconst hx hb (2) dX8_take_8 (by decide) (fun x5 h6 => ?_)
  refine cQ (va_runV (C := RX8) (As := [.int p2, .int x5]) (rest := []) ⟨hx, hb, hml, hown, hA⟩ (k_X8_giftThatIs l dC dI dA sz X Γ hU g h0 t_h0 p2 x5   (by omega)) ⟨callB_of 2 hA (al_A wd_3_72) rfl rfl rfl (hA _ wd_1_1) (hA _ wd_3_69) (by decide +kernel) ⟨Nat.le_of_ble_eq_true rfl, Nat.le_of_ble_eq_true rfl⟩, hA _ wd_3_71, hA _ ws_17⟩ ⟨bl, recv_X8 hE hG t_h0, fun U hU9 hW9 => ⟨rfl, by rw [hU9]; exact hG, hE.go hS hU9 hW9⟩⟩ rfl rfl hl.1 rfl (lv_room (Nat.le_of_ble_eq_true rfl)) dX8_take_9 ⟨Nat.zero_le _, Nat.zero_le _⟩) hS (fun r9 u7 H locs w8 hG hS => ?_)
  obtain ⟨t_r9, w8⟩ := w8
  have eu10 := w8
  rw [eu10] at hG
  refine ty_astoreq (lv' := [(4, va_rf r9), (3, va_rf r3), (0, .ref h0), (1, .int p1), (2, .int p2)]) hx hb dX8_take_12 hl (by decide) (by cases r3 <;> rfl) (fun ls hl => ?_)
  refine ty_aload_nq hx hb dX8_take_14 rfl (lv_at hl 1 rfl) ?_
  refine ty_ifnull (tgt := 23) hx hb dX8_take_15 (by decide) (fun h12 => ?_) (fun b11 h12 => ?_)
  · skip
    subst h12
    have hl : lv_has ls 5 [(4, va_rf r9), (3, .null), (0, .ref h0), (1, .int p1), (2, .int p2)] := hl
    refine ty_iconst hx hb (-1) dX8_take_23 (by decide) (fun x13 h14 => ?_)
    exact W.iret (v := x13) hx hb hr (fun t ht hW => ⟨⟨x13, g, rfl, rfl, ok1 ht hG⟩, hS.F ht⟩) hS.2.2 dX8_take_24
  · skip
    subst h12
    have t_b11 : ty Γ b11 3 := t_r3 b11 rfl
    have hl : lv_has ls 5 [(4, va_rf r9), (3, .ref b11), (0, .ref h0), (1, .int p1), (2, .int p2)] := hl
    refine ty_aloadq hx hb dX8_take_18 (lv_at hl 0 rfl) ?_
    refine ty_ifnonnull (tgt := 25) hx hb dX8_take_20 (by decide) (fun b15 h16 => ?_) (fun h16 => ?_)
    · skip
      subst h16
      have t_b15 : ty Γ b15 4 := t_r9 b15 rfl
      have hl : lv_has ls 5 [(4, .ref b15), (3, .ref b11), (0, .ref h0), (1, .int p1), (2, .int p2)] := hl
      refine lv_aload_n hx hb dX8_take_25 rfl (lv_at hl 1 rfl) ?_
      refine get_X3_2 hx hb hA hown hE hG t_b11 wd_2_12 dX8_take_26 (fun x17 => ?_)
      refine lv_aload hx hb dX8_take_29 (lv_at hl 0 rfl) ?_
      refine get_X2_5 hx hb hA hown hE hG t_b15 wd_3_30 dX8_take_31 (fun x18 => ?_)
      refine ty_icmp_ge (tgt := 40) hx hb dX8_take_34 (by decide) (fun c19 => ?_) (fun c19 => ?_)
      · skip
        refine lv_aload hx hb dX8_take_40 (lv_at hl 0 rfl) ?_
        refine lv_aload_n hx hb dX8_take_42 rfl (lv_at hl 1 rfl) ?_
        refine cV (va_runV (C := RX2) (As := [.ref b11]) (rest := []) ⟨hx, hb, hml, hown, hA⟩ (k_X2_goTo l dC dI dA sz X Γ hU g b15 t_b15 b11 t_b11   ) ⟨callB_of 1 hA (al_A wd_3_194) rfl rfl rfl (hA _ wd_1_15) (hA _ wd_3_191) (by decide +kernel) ⟨Nat.le_of_ble_eq_true rfl, Nat.le_of_ble_eq_true rfl⟩, hA _ wd_3_192, hA _ wd_3_193⟩ ⟨bl, recv_X2 hE hG t_b15, fun U hU9 hW9 => ⟨rfl, by rw [hU9]; exact hG, hE.go hS hU9 hW9⟩⟩ rfl rfl hl.1 rfl (lv_room (Nat.le_of_ble_eq_true rfl)) dX8_take_43 ⟨Nat.zero_le _, Nat.zero_le _⟩) hS (fun u20 H locs w21 hG hS => ?_)
        have eu22 := w21
        rw [eu22] at hG
        refine lv_aload_n hx hb dX8_take_46 rfl (lv_at hl 1 rfl) ?_
        refine get_X3_2 hx hb hA hown hE hG t_b11 wd_2_12 dX8_take_47 (fun x23 => ?_)
        exact W.iret (v := x23) hx hb hr (fun t ht hW => ⟨⟨x23, g, rfl, rfl, ok1 ht hG⟩, hS.F ht⟩) hS.2.2 dX8_take_50
      · skip
        refine ty_bipush hx hb (-2) dX8_take_37 (by decide) (fun x24 h25 => ?_)
        exact W.iret (v := x24) hx hb hr (fun t ht hW => ⟨⟨x24, g, rfl, rfl, ok1 ht hG⟩, hS.F ht⟩) hS.2.2 dX8_take_39
    · skip
      subst h16
      have hl : lv_has ls 5 [(4, .null), (3, .ref b11), (0, .ref h0), (1, .int p1), (2, .int p2)] := hl
      refine ty_iconst hx hb (-1) dX8_take_23 (by decide) (fun x26 h27 => ?_)
      exact W.iret (v := x26) hx hb hr (fun t ht hW => ⟨⟨x26, g, rfl, rfl, ok1 ht hG⟩, hS.F ht⟩) hS.2.2 dX8_take_24

set_option maxHeartbeats 4000000 in
set_option maxRecDepth 100000 in
/-- WeekBank.rush:  -/
theorem k_X8_rush (l : Launch) (dC : Nat → ClassId) (dI : Nat → Nat → Nat) (dA : Nat → ClassId) (sz : Nat) (X : va_W) (Γ : ty_G) (hU : Un Γ) (g : gh) (h0 : Nat) (t_h0 : ty Γ h0 1) (g2 : g 2 0 = g 34 0 ∧ 0 ≤ g 2 0 ∧ g 2 0 ≤ 10) (g3 : g 3 0 = g 35 0 ∧ 0 ≤ g 3 0 ∧ g 3 0 ≤ 200) : Met l yX8_rush (.code yX8_rush cX8_rush 5 (Option.some Jvm.ClassFile.FieldType.int) :: AL) ({ frames := 2, cells := 0, slots := 0, locals := 47 }) (PCx dC dI dA sz X Γ g [.ref h0]) (va_Qi (fun (r : Int32) (u : gh) => u = g) (okb dC dI dA sz X Γ) (ty_A sz)) 0 0 (ty_A sz) := by
  refine Met.ofW (cc := cX8_rush) (maxL := 5) (ret := (Option.some Jvm.ClassFile.FieldType.int)) (by decide) rfl ?_
  intro p e s m args below meth c s₁ B hml hv
  obtain ⟨rfl, hG, hE⟩ := hv
  have hx := B.exec
  have hb := B.bytes
  have hr := B.returns
  have hts := atoms_spec B.pre
  have hA : ∀ w ∈ AL, w.before _ s = true := fun w h => hts w (List.mem_cons_of_mem _ h)
  have hown : s.vm.findClass RX8 = some m.cls := findClass_of_methodNamed B.named
  have hlocks := B.notSynchronized
  have hS : va_S (ty_A sz) s.heap s.heap [] := va_S.rf
  have hl := lv_entry ([.ref h0]) (n := 5) (Nat.le_of_ble_eq_true rfl)
  rw [lg_entry_eq]
  generalize (lg_sl ([.ref h0]) ++ List.replicate (5 - (lg_sl ([.ref h0])).length) Slot.unset).toArray = ls at hl ⊢
  have hl : lv_has ls 5 [(0, .ref h0)] := hl
  refine ty_iconst hx hb (0) dX8_rush_0 (by decide) (fun x1 h2 => ?_)
  refine lv_istore_n (lv' := [(1, .int x1), (0, .ref h0)]) hx hb dX8_rush_1 rfl hl (by decide) rfl (fun ls hl => ?_)
  have L_2 : ∀ (n : Nat) (v1_2 : Int32) (H : Heap) (locs : List Loc) (ls : Array Slot), (g 2 0 - v1_2.toInt : Int) < n → 0 ≤ v1_2.toInt ∧ v1_2.toInt ≤ g 2 0 → ty_ok (dC, dI) vwCl Γ (TP dA Γ g) sz X H → va_S (ty_A sz) s.heap H locs → lv_has ls 5 [(1, .int v1_2), (0, .ref h0)] → W p l e (headSpec (.code yX8_rush cX8_rush 5 (Option.some Jvm.ClassFile.FieldType.int) :: AL) ({ frames := 2, cells := 0, slots := 0, locals := 47 })).room s m ([.ref h0] : List Value).toArray below meth c H locs 0 0 (MQ below (va_Qi (fun (r : Int32) (u : gh) => u = g) (okb dC dI dA sz X Γ) (ty_A sz)) ([.ref h0] : List Value).toArray s 0 0 (ty_A sz)) (F0 m 2 ls []) := by
    intro n
    induction n with
    | zero => intro v1_2 H locs ls hm hi0 hG hS hl; exfalso; omega
    | succ n ih_2 =>
      intro v1_2 H locs ls hm hi0 hG hS hl
      refine lv_iload_n hx hb dX8_rush_2 rfl (lv_at hl 0 rfl) ?_
      refine lv_aload_n hx hb dX8_rush_3 rfl (lv_at hl 1 rfl) ?_
      refine get_X8_3 hx hb hA hown hE hG t_h0 wd_1_160 dX8_rush_4 (fun x4 h5 => ?_)
      refine ty_icmp_ge (tgt := 42) hx hb dX8_rush_7 (by decide) (fun c7 => ?_) (fun c7 => ?_)
      · skip
        refine ty_iconst hx hb (0) dX8_rush_42 (by decide) (fun x8 h9 => ?_)
        refine lv_istore_n (lv' := [(1, .int x8), (0, .ref h0)]) hx hb dX8_rush_43 rfl hl (by decide) rfl (fun ls hl => ?_)
        refine ty_iconst hx hb (0) dX8_rush_44 (by decide) (fun x10 h11 => ?_)
        refine lv_istore_n (lv' := [(2, .int x10), (1, .int x8), (0, .ref h0)]) hx hb dX8_rush_45 rfl hl (by decide) rfl (fun ls hl => ?_)
        have L_46 : ∀ (n : Nat) (v2_46 : Int32) (v1_46 : Int32) (H : Heap) (locs : List Loc) (ls : Array Slot), (g 2 0 - v2_46.toInt : Int) < n → 0 ≤ v2_46.toInt ∧ v2_46.toInt ≤ g 2 0 → ty_ok (dC, dI) vwCl Γ (TP dA Γ g) sz X H → va_S (ty_A sz) s.heap H locs → lv_has ls 5 [(2, .int v2_46), (1, .int v1_46), (0, .ref h0)] → W p l e (headSpec (.code yX8_rush cX8_rush 5 (Option.some Jvm.ClassFile.FieldType.int) :: AL) ({ frames := 2, cells := 0, slots := 0, locals := 47 })).room s m ([.ref h0] : List Value).toArray below meth c H locs 0 0 (MQ below (va_Qi (fun (r : Int32) (u : gh) => u = g) (okb dC dI dA sz X Γ) (ty_A sz)) ([.ref h0] : List Value).toArray s 0 0 (ty_A sz)) (F0 m 46 ls []) := by
          intro n
          induction n with
          | zero => intro v2_46 v1_46 H locs ls hm hi0 hG hS hl; exfalso; omega
          | succ n ih_46 =>
            intro v2_46 v1_46 H locs ls hm hi0 hG hS hl
            refine lv_iload_n hx hb dX8_rush_46 rfl (lv_at hl 0 rfl) ?_
            refine lv_aload_n hx hb dX8_rush_47 rfl (lv_at hl 2 rfl) ?_
            refine get_X8_3 hx hb hA hown hE hG t_h0 wd_1_160 dX8_rush_48 (fun x13 h14 => ?_)
            refine ty_icmp_ge (tgt := 117) hx hb dX8_rush_51 (by decide) (fun c16 => ?_) (fun c16 => ?_)
            · skip
              refine lv_iload_n hx hb dX8_rush_117 rfl (lv_at hl 1 rfl) ?_
              exact W.iret (v := v1_46) hx hb hr (fun t ht hW => ⟨⟨v1_46, g, rfl, rfl, ok1 ht hG⟩, hS.F ht⟩) hS.2.2 dX8_rush_118
            · skip
              refine lv_aload_n hx hb dX8_rush_54 rfl (lv_at hl 2 rfl) ?_
              refine cQ (va_runV (C := RX8) (As := []) (rest := []) ⟨hx, hb, hml, hown, hA⟩ (k_X8_firstInLine l dC dI dA sz X Γ hU g h0 t_h0   (by omega)) ⟨callB_of 0 hA (al_A wd_3_202) rfl rfl rfl (hA _ wd_1_1) (hA _ wd_3_199) (by decide +kernel) ⟨Nat.le_of_ble_eq_true rfl, Nat.le_of_ble_eq_true rfl⟩, hA _ wd_3_201, hA _ ws_28⟩ ⟨bl, recv_X8 hE hG t_h0, fun U hU9 hW9 => ⟨rfl, by rw [hU9]; exact hG, hE.go hS hU9 hW9⟩⟩ rfl rfl hl.1 rfl (lv_room (Nat.le_of_ble_eq_true rfl)) dX8_rush_55 ⟨Nat.zero_le _, Nat.zero_le _⟩) hS (fun r19 u17 H locs w18 hG hS => ?_)
              obtain ⟨t_r19, w18⟩ := w18
              have eu20 := w18
              rw [eu20] at hG
              refine ty_astore_nq (lv' := [(3, va_rf r19), (2, .int v2_46), (1, .int v1_46), (0, .ref h0)]) hx hb dX8_rush_58 rfl hl (by decide) rfl (fun ls hl => ?_)
              refine ty_aload_nq hx hb dX8_rush_59 rfl (lv_at hl 0 rfl) ?_
              refine ty_ifnonnull (tgt := 66) hx hb dX8_rush_60 (by decide) (fun b21 h22 => ?_) (fun h22 => ?_)
              · skip
                subst h22
                have t_b21 : ty Γ b21 3 := t_r19 b21 rfl
                have hl : lv_has ls 5 [(3, .ref b21), (2, .int v2_46), (1, .int v1_46), (0, .ref h0)] := hl
                refine lv_aload_n hx hb dX8_rush_66 rfl (lv_at hl 0 rfl) ?_
                refine ty_iconst hx hb (0) dX8_rush_67 (by decide) (fun x23 h24 => ?_)
                refine put_X3_6 hx hb hA hown hE hG hS t_b21 wd_2_21 (by omega) dX8_rush_68 (fun H locs hG hS => ?_)
                refine lv_aload_n hx hb dX8_rush_71 rfl (lv_at hl 3 rfl) ?_
                refine lv_aload_n hx hb dX8_rush_72 rfl (lv_at hl 0 rfl) ?_
                refine cQ (va_runV (C := RX8) (As := [.ref b21]) (rest := []) ⟨hx, hb, hml, hown, hA⟩ (k_X8_bestBankedFor l dC dI dA sz X Γ hU g h0 t_h0 b21 t_b21   (by omega)) ⟨callB_of 1 hA (al_A wd_3_206) rfl rfl rfl (hA _ wd_1_1) (hA _ wd_3_203) (by decide +kernel) ⟨Nat.le_of_ble_eq_true rfl, Nat.le_of_ble_eq_true rfl⟩, hA _ wd_3_205, hA _ ws_29⟩ ⟨bl, recv_X8 hE hG t_h0, fun U hU9 hW9 => ⟨rfl, by rw [hU9]; exact hG, hE.go hS hU9 hW9⟩⟩ rfl rfl hl.1 rfl (lv_room (Nat.le_of_ble_eq_true rfl)) dX8_rush_73 ⟨Nat.zero_le _, Nat.zero_le _⟩) hS (fun r27 u25 H locs w26 hG hS => ?_)
                obtain ⟨t_r27, w26⟩ := w26
                have eu28 := w26
                rw [eu28] at hG
                refine ty_astoreq (lv' := [(4, va_rf r27), (3, .ref b21), (2, .int v2_46), (1, .int v1_46), (0, .ref h0)]) hx hb dX8_rush_76 hl (by decide) rfl (fun ls hl => ?_)
                refine ty_aloadq hx hb dX8_rush_78 (lv_at hl 0 rfl) ?_
                refine ty_ifnull (tgt := 111) hx hb dX8_rush_80 (by decide) (fun h30 => ?_) (fun b29 h30 => ?_)
                · skip
                  subst h30
                  have hl : lv_has ls 5 [(4, .null), (3, .ref b21), (2, .int v2_46), (1, .int v1_46), (0, .ref h0)] := hl
                  obtain ⟨x31, h32⟩ : ∃ y : Int32, y = v2_46 + Int32.ofInt (1) := ⟨_, rfl⟩
                  try have h33 : x31.toInt = v2_46.toInt + (1) := ty_inc h32 (by decide) (by omega) (by omega)
                  refine lv_iinc (v := x31) (lv' := [(2, .int x31), (4, .null), (3, .ref b21), (1, .int v1_46), (0, .ref h0)]) hx hb dX8_rush_111 hl (k := 2) rfl h32.symm (by decide) rfl (fun ls hl => ?_)
                  refine lv_goto (tgt := 46) hx hb dX8_rush_114 (by decide) ?_
                  exact ih_46 x31 v1_46 _ _ ls (by omega) (by omega) hG hS (lv_sub hl [0, 3, 4] rfl)
                · skip
                  subst h30
                  have t_b29 : ty Γ b29 4 := t_r27 b29 rfl
                  have hl : lv_has ls 5 [(4, .ref b29), (3, .ref b21), (2, .int v2_46), (1, .int v1_46), (0, .ref h0)] := hl
                  refine lv_aload hx hb dX8_rush_83 (lv_at hl 0 rfl) ?_
                  refine lv_aload_n hx hb dX8_rush_85 rfl (lv_at hl 1 rfl) ?_
                  refine cV (va_runV (C := RX2) (As := [.ref b21]) (rest := []) ⟨hx, hb, hml, hown, hA⟩ (k_X2_goTo l dC dI dA sz X Γ hU g b29 t_b29 b21 t_b21   ) ⟨callB_of 1 hA (al_A wd_3_194) rfl rfl rfl (hA _ wd_1_15) (hA _ wd_3_191) (by decide +kernel) ⟨Nat.le_of_ble_eq_true rfl, Nat.le_of_ble_eq_true rfl⟩, hA _ wd_3_192, hA _ wd_3_193⟩ ⟨bl, recv_X2 hE hG t_b29, fun U hU9 hW9 => ⟨rfl, by rw [hU9]; exact hG, hE.go hS hU9 hW9⟩⟩ rfl rfl hl.1 rfl (lv_room (Nat.le_of_ble_eq_true rfl)) dX8_rush_86 ⟨Nat.zero_le _, Nat.zero_le _⟩) hS (fun u34 H locs w35 hG hS => ?_)
                  have eu36 := w35
                  rw [eu36] at hG
                  refine lv_aload_n hx hb dX8_rush_89 rfl (lv_at hl 1 rfl) ?_
                  refine lv_dup hx hb dX8_rush_90 rfl ?_
                  refine get_X3_3 hx hb hA hown hE hG t_b21 wd_2_14 dX8_rush_91 (fun x37 => ?_)
                  refine lv_aload hx hb dX8_rush_94 (lv_at hl 0 rfl) ?_
                  refine get_X2_5 hx hb hA hown hE hG t_b29 wd_3_30 dX8_rush_96 (fun x38 => ?_)
                  refine ty_iadd hx hb dX8_rush_99 (fun x39 h40 => ?_)
                  refine put_X3_3 hx hb hA hown hE hG hS t_b21 wd_2_14 dX8_rush_100 (fun H locs hG hS => ?_)
                  refine lv_aload_n hx hb dX8_rush_103 rfl (lv_at hl 1 rfl) ?_
                  refine lv_null hx hb dX8_rush_104 ?_
                  refine put_X3_7 (r := none) hx hb hA hown hE hG hS t_b21 wd_2_23 (fun _ h => by cases h) dX8_rush_105 (fun H locs hG hS => ?_)
                  obtain ⟨x42, h43⟩ : ∃ y : Int32, y = v1_46 + Int32.ofInt (1) := ⟨_, rfl⟩
                  try have h44 : x42.toInt = v1_46.toInt + (1) := ty_inc h43 (by decide) (by omega) (by omega)
                  refine lv_iinc (v := x42) (lv' := [(1, .int x42), (4, .ref b29), (3, .ref b21), (2, .int v2_46), (0, .ref h0)]) hx hb dX8_rush_108 hl (k := 3) rfl h43.symm (by decide) rfl (fun ls hl => ?_)
                  obtain ⟨x45, h46⟩ : ∃ y : Int32, y = v2_46 + Int32.ofInt (1) := ⟨_, rfl⟩
                  try have h47 : x45.toInt = v2_46.toInt + (1) := ty_inc h46 (by decide) (by omega) (by omega)
                  refine lv_iinc (v := x45) (lv' := [(2, .int x45), (1, .int x42), (4, .ref b29), (3, .ref b21), (0, .ref h0)]) hx hb dX8_rush_111 hl (k := 3) rfl h46.symm (by decide) rfl (fun ls hl => ?_)
                  refine lv_goto (tgt := 46) hx hb dX8_rush_114 (by decide) ?_
                  exact ih_46 x45 x42 _ _ ls (by omega) (by omega) hG hS (lv_sub hl [0, 1, 4] rfl)
              · skip
                subst h22
                have hl : lv_has ls 5 [(3, .null), (2, .int v2_46), (1, .int v1_46), (0, .ref h0)] := hl
                refine lv_goto (tgt := 117) hx hb dX8_rush_63 (by decide) ?_
                refine lv_iload_n hx hb dX8_rush_117 rfl (lv_at hl 2 rfl) ?_
                exact W.iret (v := v1_46) hx hb hr (fun t ht hW => ⟨⟨v1_46, g, rfl, rfl, ok1 ht hG⟩, hS.F ht⟩) hS.2.2 dX8_rush_118
        exact L_46 ((g 2 0 - x10.toInt) + 1).toNat x10 x8 _ _ ls (by omega) (by omega) hG hS (lv_sub hl [0, 1, 2] rfl)
      · skip
        refine lv_aload_n hx hb dX8_rush_10 rfl (lv_at hl 1 rfl) ?_
        refine get_X8_2 hx hb hA hown hE hG t_h0 wd_1_159 dX8_rush_11 (fun b48 (t_b48 : ty Γ b48 11) => ?_)
        refine lv_iload_n hx hb dX8_rush_14 rfl (lv_at hl 0 rfl) ?_
        refine ald_11 hx hb hE hG t_b48 (by omega) dX8_rush_15 (fun j50 r49 h51 t_r49 h52 => ?_)
        refine lv_aload_n hx hb dX8_rush_16 rfl (lv_at hl 1 rfl) ?_
        refine get_X8_2 hx hb hA hown hE hG t_h0 wd_1_159 dX8_rush_17 (fun b53 (t_b53 : ty Γ b53 11) => ?_)
        refine lv_iload_n hx hb dX8_rush_20 rfl (lv_at hl 0 rfl) ?_
        refine ald_11 hx hb hE hG t_b53 (by omega) dX8_rush_21 (fun j55 r54 h56 t_r54 h57 => ?_)
        obtain ⟨b58, rfl⟩ := Option.ne_none_iff_exists'.mp (h57 (by omega))
        have t_b58 : ty Γ b58 3 := t_r54 b58 rfl
        have hl : lv_has ls 5 [(1, .int v1_2), (0, .ref h0)] := hl
        obtain ⟨fs59, fs59a, fs59l, fs59F⟩ := pin_X3 hG t_b58
        obtain ⟨r60, e_r60, t_r60⟩ : vN Γ 5 (vp_V fs59 7) := fs59F 7 (by decide)
        refine gep_X3 hx hb hA hE fs59a hown 7 (by decide) wd_2_23 rfl (va_rf r60) (vp_at fs59l (by decide) e_r60) dX8_rush_22 ?_
        refine ty_ifnull (tgt := 32) hx hb dX8_rush_25 (by decide) (fun h62 => ?_) (fun b61 h62 => ?_)
        · skip
          subst h62
          have hl : lv_has ls 5 [(1, .int v1_2), (0, .ref h0)] := hl
          refine ty_iconst hx hb (0) dX8_rush_32 (by decide) (fun x63 h64 => ?_)
          obtain ⟨b65, rfl⟩ := Option.ne_none_iff_exists'.mp (h52 (by omega))
          have t_b65 : ty Γ b65 3 := t_r49 b65 rfl
          have hl : lv_has ls 5 [(1, .int v1_2), (0, .ref h0)] := hl
          refine put_X3_6 hx hb hA hown hE hG hS t_b65 wd_2_21 (by omega) dX8_rush_33 (fun H locs hG hS => ?_)
          obtain ⟨x66, h67⟩ : ∃ y : Int32, y = v1_2 + Int32.ofInt (1) := ⟨_, rfl⟩
          try have h68 : x66.toInt = v1_2.toInt + (1) := ty_inc h67 (by decide) (by omega) (by omega)
          refine lv_iinc (v := x66) (lv' := [(1, .int x66), (0, .ref h0)]) hx hb dX8_rush_36 hl (k := 0) rfl h67.symm (by decide) rfl (fun ls hl => ?_)
          refine lv_goto (tgt := 2) hx hb dX8_rush_39 (by decide) ?_
          exact ih_2 x66 _ _ ls (by omega) (by omega) hG hS (lv_sub hl [0, 1] rfl)
        · skip
          subst h62
          have t_b61 : ty Γ b61 5 := t_r60 b61 rfl
          have hl : lv_has ls 5 [(1, .int v1_2), (0, .ref h0)] := hl
          refine ty_iconst hx hb (1) dX8_rush_28 (by decide) (fun x69 h70 => ?_)
          refine lv_goto (tgt := 33) hx hb dX8_rush_29 (by decide) ?_
          obtain ⟨b71, rfl⟩ := Option.ne_none_iff_exists'.mp (h52 (by omega))
          have t_b71 : ty Γ b71 3 := t_r49 b71 rfl
          have hl : lv_has ls 5 [(1, .int v1_2), (0, .ref h0)] := hl
          refine put_X3_6 hx hb hA hown hE hG hS t_b71 wd_2_21 (by omega) dX8_rush_33 (fun H locs hG hS => ?_)
          obtain ⟨x72, h73⟩ : ∃ y : Int32, y = v1_2 + Int32.ofInt (1) := ⟨_, rfl⟩
          try have h74 : x72.toInt = v1_2.toInt + (1) := ty_inc h73 (by decide) (by omega) (by omega)
          refine lv_iinc (v := x72) (lv' := [(1, .int x72), (0, .ref h0)]) hx hb dX8_rush_36 hl (k := 0) rfl h73.symm (by decide) rfl (fun ls hl => ?_)
          refine lv_goto (tgt := 2) hx hb dX8_rush_39 (by decide) ?_
          exact ih_2 x72 _ _ ls (by omega) (by omega) hG hS (lv_sub hl [0, 1] rfl)
  exact L_2 ((g 2 0 - x1.toInt) + 1).toNat x1 _ _ ls (by omega) (by omega) hG hS (lv_sub hl [0, 1] rfl)

set_option maxHeartbeats 4000000 in
set_option maxRecDepth 100000 in
/-- WeekBank.shut:  -/
theorem k_X8_shut (l : Launch) (dC : Nat → ClassId) (dI : Nat → Nat → Nat) (dA : Nat → ClassId) (sz : Nat) (X : va_W) (Γ : ty_G) (hU : Un Γ) (g : gh) (h0 : Nat) (t_h0 : ty Γ h0 1) (p1 : Int32) (p2 : Int32) (p3 : Int32) (g1 : g 1 0 = g 33 0 ∧ 0 ≤ g 1 0 ∧ g 1 0 ≤ 6) (g3 : g 3 0 = g 35 0 ∧ 0 ≤ g 3 0 ∧ g 3 0 ≤ 200) (g5 : 0 ≤ g 5 0 ∧ g 5 0 ≤ 52) : Met l yX8_shut (.code yX8_shut cX8_shut 9 (Option.some Jvm.ClassFile.FieldType.int) :: AL) ({ frames := 2, cells := 0, slots := 0, locals := 40 }) (PCx dC dI dA sz X Γ g [.ref h0, .int p1, .int p2, .int p3]) (va_Qi (fun (r : Int32) (u : gh) => u = g) (okb dC dI dA sz X Γ) (ty_A sz)) 0 0 (ty_A sz) := by
  refine Met.ofW (cc := cX8_shut) (maxL := 9) (ret := (Option.some Jvm.ClassFile.FieldType.int)) (by decide) rfl ?_
  intro p e s m args below meth c s₁ B hml hv
  obtain ⟨rfl, hG, hE⟩ := hv
  have hx := B.exec
  have hb := B.bytes
  have hr := B.returns
  have hts := atoms_spec B.pre
  have hA : ∀ w ∈ AL, w.before _ s = true := fun w h => hts w (List.mem_cons_of_mem _ h)
  have hown : s.vm.findClass RX8 = some m.cls := findClass_of_methodNamed B.named
  have hlocks := B.notSynchronized
  have hS : va_S (ty_A sz) s.heap s.heap [] := va_S.rf
  have hl := lv_entry ([.ref h0, .int p1, .int p2, .int p3]) (n := 9) (Nat.le_of_ble_eq_true rfl)
  rw [lg_entry_eq]
  generalize (lg_sl ([.ref h0, .int p1, .int p2, .int p3]) ++ List.replicate (9 - (lg_sl ([.ref h0, .int p1, .int p2, .int p3])).length) Slot.unset).toArray = ls at hl ⊢
  have hl : lv_has ls 9 [(0, .ref h0), (1, .int p1), (2, .int p2), (3, .int p3)] := hl
  refine lv_aload_n hx hb dX8_shut_0 rfl (lv_at hl 0 rfl) ?_
  refine lv_iload_n hx hb dX8_shut_1 rfl (lv_at hl 1 rfl) ?_
  refine cQ (va_runV (C := RX8) (As := [.int p1]) (rest := []) ⟨hx, hb, hml, hown, hA⟩ (k_X8_flatAt l dC dI dA sz X Γ hU g h0 t_h0 p1   (by omega)) ⟨callB_of 1 hA (al_A wd_2_48) rfl rfl rfl (hA _ wd_1_1) (hA _ wd_2_45) (by decide +kernel) ⟨Nat.le_of_ble_eq_true rfl, Nat.le_of_ble_eq_true rfl⟩, hA _ wd_2_47, hA _ ws_0⟩ ⟨bl, recv_X8 hE hG t_h0, fun U hU9 hW9 => ⟨rfl, by rw [hU9]; exact hG, hE.go hS hU9 hW9⟩⟩ rfl rfl hl.1 rfl (lv_room (Nat.le_of_ble_eq_true rfl)) dX8_shut_2 ⟨Nat.zero_le _, Nat.zero_le _⟩) hS (fun r3 u1 H locs w2 hG hS => ?_)
  obtain ⟨t_r3, w2⟩ := w2
  obtain ⟨eu4, w2⟩ := w2
  rw [eu4] at hG
  refine ty_astoreq (lv' := [(4, va_rf r3), (0, .ref h0), (1, .int p1), (2, .int p2), (3, .int p3)]) hx hb dX8_shut_5 hl (by decide) rfl (fun ls hl => ?_)
  refine ty_aloadq hx hb dX8_shut_7 (lv_at hl 0 rfl) ?_
  refine ty_ifnull (tgt := 31) hx hb dX8_shut_9 (by decide) (fun h6 => ?_) (fun b5 h6 => ?_)
  · skip
    subst h6
    have hl : lv_has ls 9 [(4, .null), (0, .ref h0), (1, .int p1), (2, .int p2), (3, .int p3)] := hl
    refine ty_iconst hx hb (-1) dX8_shut_31 (by decide) (fun x7 h8 => ?_)
    exact W.iret (v := x7) hx hb hr (fun t ht hW => ⟨⟨x7, g, rfl, rfl, ok1 ht hG⟩, hS.F ht⟩) hS.2.2 dX8_shut_32
  · skip
    subst h6
    have t_b5 : ty Γ b5 2 := t_r3 b5 rfl
    have hl : lv_has ls 9 [(4, .ref b5), (0, .ref h0), (1, .int p1), (2, .int p2), (3, .int p3)] := hl
    refine lv_iload_n hx hb dX8_shut_12 rfl (lv_at hl 3 rfl) ?_
    refine lv_aload_n hx hb dX8_shut_13 rfl (lv_at hl 1 rfl) ?_
    refine get_X8_10 hx hb hA hown hE hG t_h0 wd_1_167 dX8_shut_14 (fun x9 h10 => ?_)
    refine ty_icmp_lt (tgt := 31) hx hb dX8_shut_17 (by decide) (fun c12 => ?_) (fun c12 => ?_)
    · skip
      refine ty_iconst hx hb (-1) dX8_shut_31 (by decide) (fun x13 h14 => ?_)
      exact W.iret (v := x13) hx hb hr (fun t ht hW => ⟨⟨x13, g, rfl, rfl, ok1 ht hG⟩, hS.F ht⟩) hS.2.2 dX8_shut_32
    · skip
      refine lv_iload_n hx hb dX8_shut_20 rfl (lv_at hl 3 rfl) ?_
      refine lv_iload_n hx hb dX8_shut_21 rfl (lv_at hl 4 rfl) ?_
      refine ty_icmp_gt (tgt := 31) hx hb dX8_shut_22 (by decide) (fun c15 => ?_) (fun c15 => ?_)
      · skip
        refine ty_iconst hx hb (-1) dX8_shut_31 (by decide) (fun x16 h17 => ?_)
        exact W.iret (v := x16) hx hb hr (fun t ht hW => ⟨⟨x16, g, rfl, rfl, ok1 ht hG⟩, hS.F ht⟩) hS.2.2 dX8_shut_32
      · skip
        refine lv_iload_n hx hb dX8_shut_25 rfl (lv_at hl 4 rfl) ?_
        refine ty_bipush hx hb (52) dX8_shut_26 (by decide) (fun x18 h19 => ?_)
        refine ty_icmp_le (tgt := 33) hx hb dX8_shut_28 (by decide) (fun c20 => ?_) (fun c20 => ?_)
        · skip
          refine lv_iload_n hx hb dX8_shut_33 rfl (lv_at hl 3 rfl) ?_
          refine lv_istore (lv' := [(5, .int p2), (4, .ref b5), (0, .ref h0), (1, .int p1), (2, .int p2), (3, .int p3)]) hx hb dX8_shut_34 hl (by decide) rfl (fun ls hl => ?_)
          have L_36 : ∀ (n : Nat) (v5_36 : Int32) (H : Heap) (locs : List Loc) (ls : Array Slot), (53 - v5_36.toInt : Int) < n → 0 ≤ v5_36.toInt ∧ v5_36.toInt ≤ 53 → ty_ok (dC, dI) vwCl Γ (TP dA Γ g) sz X H → va_S (ty_A sz) s.heap H locs → lv_has ls 9 [(5, .int v5_36), (4, .ref b5), (0, .ref h0), (1, .int p1), (2, .int p2), (3, .int p3)] → W p l e (headSpec (.code yX8_shut cX8_shut 9 (Option.some Jvm.ClassFile.FieldType.int) :: AL) ({ frames := 2, cells := 0, slots := 0, locals := 40 })).room s m ([.ref h0, .int p1, .int p2, .int p3] : List Value).toArray below meth c H locs 0 0 (MQ below (va_Qi (fun (r : Int32) (u : gh) => u = g) (okb dC dI dA sz X Γ) (ty_A sz)) ([.ref h0, .int p1, .int p2, .int p3] : List Value).toArray s 0 0 (ty_A sz)) (F0 m 36 ls []) := by
            intro n
            induction n with
            | zero => intro v5_36 H locs ls hm hi0 hG hS hl; exfalso; omega
            | succ n ih_36 =>
              intro v5_36 H locs ls hm hi0 hG hS hl
              refine lv_iload hx hb dX8_shut_36 (lv_at hl 0 rfl) ?_
              refine lv_iload_n hx hb dX8_shut_38 rfl (lv_at hl 5 rfl) ?_
              refine ty_icmp_gt (tgt := 57) hx hb dX8_shut_39 (by decide) (fun c22 => ?_) (fun c22 => ?_)
              · skip
                refine ty_iconst hx hb (0) dX8_shut_57 (by decide) (fun x23 h24 => ?_)
                refine lv_istore (lv' := [(5, .int x23), (4, .ref b5), (0, .ref h0), (1, .int p1), (2, .int p2), (3, .int p3)]) hx hb dX8_shut_58 hl (by decide) rfl (fun ls hl => ?_)
                refine ty_iconst hx hb (0) dX8_shut_60 (by decide) (fun x25 h26 => ?_)
                refine lv_istore (lv' := [(6, .int x25), (5, .int x23), (4, .ref b5), (0, .ref h0), (1, .int p1), (2, .int p2), (3, .int p3)]) hx hb dX8_shut_61 hl (by decide) rfl (fun ls hl => ?_)
                have L_63 : ∀ (n : Nat) (v6_63 : Int32) (v5_63 : Int32) (H : Heap) (locs : List Loc) (ls : Array Slot), (g 3 0 - v6_63.toInt : Int) < n → 0 ≤ v6_63.toInt ∧ v6_63.toInt ≤ g 3 0 → ty_ok (dC, dI) vwCl Γ (TP dA Γ g) sz X H → va_S (ty_A sz) s.heap H locs → lv_has ls 9 [(6, .int v6_63), (5, .int v5_63), (4, .ref b5), (0, .ref h0), (1, .int p1), (2, .int p2), (3, .int p3)] → W p l e (headSpec (.code yX8_shut cX8_shut 9 (Option.some Jvm.ClassFile.FieldType.int) :: AL) ({ frames := 2, cells := 0, slots := 0, locals := 40 })).room s m ([.ref h0, .int p1, .int p2, .int p3] : List Value).toArray below meth c H locs 0 0 (MQ below (va_Qi (fun (r : Int32) (u : gh) => u = g) (okb dC dI dA sz X Γ) (ty_A sz)) ([.ref h0, .int p1, .int p2, .int p3] : List Value).toArray s 0 0 (ty_A sz)) (F0 m 63 ls []) := by
                  intro n
                  induction n with
                  | zero => intro v6_63 v5_63 H locs ls hm hi0 hG hS hl; exfalso; omega
                  | succ n ih_63 =>
                    intro v6_63 v5_63 H locs ls hm hi0 hG hS hl
                    refine lv_iload hx hb dX8_shut_63 (lv_at hl 0 rfl) ?_
                    refine lv_aload_n hx hb dX8_shut_65 rfl (lv_at hl 3 rfl) ?_
                    refine get_X8_5 hx hb hA hown hE hG t_h0 wd_1_162 dX8_shut_66 (fun x28 h29 => ?_)
                    refine ty_icmp_ge (tgt := 155) hx hb dX8_shut_69 (by decide) (fun c31 => ?_) (fun c31 => ?_)
                    · skip
                      refine lv_iload hx hb dX8_shut_155 (lv_at hl 1 rfl) ?_
                      exact W.iret (v := v5_63) hx hb hr (fun t ht hW => ⟨⟨v5_63, g, rfl, rfl, ok1 ht hG⟩, hS.F ht⟩) hS.2.2 dX8_shut_157
                    · skip
                      refine lv_aload_n hx hb dX8_shut_72 rfl (lv_at hl 3 rfl) ?_
                      refine get_X8_4 hx hb hA hown hE hG t_h0 wd_1_161 dX8_shut_73 (fun b32 (t_b32 : ty Γ b32 12) => ?_)
                      refine lv_iload hx hb dX8_shut_76 (lv_at hl 0 rfl) ?_
                      refine ald_12 hx hb hE hG t_b32 (by omega) dX8_shut_78 (fun j34 r33 h35 t_r33 h36 => ?_)
                      refine ty_astoreq (lv' := [(7, va_rf r33), (6, .int v6_63), (5, .int v5_63), (4, .ref b5), (0, .ref h0), (1, .int p1), (2, .int p2), (3, .int p3)]) hx hb dX8_shut_79 hl (by decide) rfl (fun ls hl => ?_)
                      refine ty_aloadq hx hb dX8_shut_81 (lv_at hl 0 rfl) ?_
                      obtain ⟨b37, rfl⟩ := Option.ne_none_iff_exists'.mp (h36 (by omega))
                      have t_b37 : ty Γ b37 4 := t_r33 b37 rfl
                      have hl : lv_has ls 9 [(7, .ref b37), (6, .int v6_63), (5, .int v5_63), (4, .ref b5), (0, .ref h0), (1, .int p1), (2, .int p2), (3, .int p3)] := hl
                      refine get_X2_2 hx hb hA hown hE hG t_b37 wd_3_24 dX8_shut_83 (fun b38 (t_b38 : ty Γ b38 2) => ?_)
                      refine lv_aload hx hb dX8_shut_86 (lv_at hl 3 rfl) ?_
                      refine lv_acmp_ne (rx := some b38) (ry := some b5) (tgt := 113) hx hb dX8_shut_88 (by decide) (fun h39 => ?_) (fun h39 => ?_)
                      · skip
                        refine ty_iconst hx hb (0) dX8_shut_113 (by decide) (fun x40 h41 => ?_)
                        refine lv_istore (lv' := [(8, .int x40), (7, .ref b37), (6, .int v6_63), (5, .int v5_63), (4, .ref b5), (0, .ref h0), (1, .int p1), (2, .int p2), (3, .int p3)]) hx hb dX8_shut_114 hl (by decide) rfl (fun ls hl => ?_)
                        refine lv_iload hx hb dX8_shut_116 (lv_at hl 0 rfl) ?_
                        refine ty_if_eq (tgt := 149) hx hb dX8_shut_118 (by decide) (fun c42 => ?_) (fun c42 => ?_)
                        · skip
                          obtain ⟨x43, h44⟩ : ∃ y : Int32, y = v6_63 + Int32.ofInt (1) := ⟨_, rfl⟩
                          try have h45 : x43.toInt = v6_63.toInt + (1) := ty_inc h44 (by decide) (by omega) (by omega)
                          refine lv_iinc (v := x43) (lv' := [(6, .int x43), (8, .int x40), (7, .ref b37), (5, .int v5_63), (4, .ref b5), (0, .ref h0), (1, .int p1), (2, .int p2), (3, .int p3)]) hx hb dX8_shut_149 hl (k := 2) rfl h44.symm (by decide) rfl (fun ls hl => ?_)
                          refine lv_goto (tgt := 63) hx hb dX8_shut_152 (by decide) ?_
                          exact ih_63 x43 v5_63 _ _ ls (by omega) (by omega) hG hS (lv_sub hl [0, 3, 4, 5, 6, 7, 8] rfl)
                        · exfalso; omega
                      · skip
                        refine lv_aload hx hb dX8_shut_91 (lv_at hl 0 rfl) ?_
                        refine get_X2_3 hx hb hA hown hE hG t_b37 wd_3_26 dX8_shut_93 (fun x46 => ?_)
                        refine lv_iload_n hx hb dX8_shut_96 rfl (lv_at hl 6 rfl) ?_
                        refine ty_icmp_lt (tgt := 113) hx hb dX8_shut_97 (by decide) (fun c47 => ?_) (fun c47 => ?_)
                        · skip
                          refine ty_iconst hx hb (0) dX8_shut_113 (by decide) (fun x48 h49 => ?_)
                          refine lv_istore (lv' := [(8, .int x48), (7, .ref b37), (6, .int v6_63), (5, .int v5_63), (4, .ref b5), (0, .ref h0), (1, .int p1), (2, .int p2), (3, .int p3)]) hx hb dX8_shut_114 hl (by decide) rfl (fun ls hl => ?_)
                          refine lv_iload hx hb dX8_shut_116 (lv_at hl 0 rfl) ?_
                          refine ty_if_eq (tgt := 149) hx hb dX8_shut_118 (by decide) (fun c50 => ?_) (fun c50 => ?_)
                          · skip
                            obtain ⟨x51, h52⟩ : ∃ y : Int32, y = v6_63 + Int32.ofInt (1) := ⟨_, rfl⟩
                            try have h53 : x51.toInt = v6_63.toInt + (1) := ty_inc h52 (by decide) (by omega) (by omega)
                            refine lv_iinc (v := x51) (lv' := [(6, .int x51), (8, .int x48), (7, .ref b37), (5, .int v5_63), (4, .ref b5), (0, .ref h0), (1, .int p1), (2, .int p2), (3, .int p3)]) hx hb dX8_shut_149 hl (k := 2) rfl h52.symm (by decide) rfl (fun ls hl => ?_)
                            refine lv_goto (tgt := 63) hx hb dX8_shut_152 (by decide) ?_
                            exact ih_63 x51 v5_63 _ _ ls (by omega) (by omega) hG hS (lv_sub hl [0, 3, 4, 5, 6, 7, 8] rfl)
                          · exfalso; omega
                        · skip
                          refine lv_aload hx hb dX8_shut_100 (lv_at hl 0 rfl) ?_
                          refine get_X2_3 hx hb hA hown hE hG t_b37 wd_3_26 dX8_shut_102 (fun x54 => ?_)
                          refine lv_iload_n hx hb dX8_shut_105 rfl (lv_at hl 7 rfl) ?_
                          refine ty_icmp_gt (tgt := 113) hx hb dX8_shut_106 (by decide) (fun c55 => ?_) (fun c55 => ?_)
                          · skip
                            refine ty_iconst hx hb (0) dX8_shut_113 (by decide) (fun x56 h57 => ?_)
                            refine lv_istore (lv' := [(8, .int x56), (7, .ref b37), (6, .int v6_63), (5, .int v5_63), (4, .ref b5), (0, .ref h0), (1, .int p1), (2, .int p2), (3, .int p3)]) hx hb dX8_shut_114 hl (by decide) rfl (fun ls hl => ?_)
                            refine lv_iload hx hb dX8_shut_116 (lv_at hl 0 rfl) ?_
                            refine ty_if_eq (tgt := 149) hx hb dX8_shut_118 (by decide) (fun c58 => ?_) (fun c58 => ?_)
                            · skip
                              obtain ⟨x59, h60⟩ : ∃ y : Int32, y = v6_63 + Int32.ofInt (1) := ⟨_, rfl⟩
                              try have h61 : x59.toInt = v6_63.toInt + (1) := ty_inc h60 (by decide) (by omega) (by omega)
                              refine lv_iinc (v := x59) (lv' := [(6, .int x59), (8, .int x56), (7, .ref b37), (5, .int v5_63), (4, .ref b5), (0, .ref h0), (1, .int p1), (2, .int p2), (3, .int p3)]) hx hb dX8_shut_149 hl (k := 2) rfl h60.symm (by decide) rfl (fun ls hl => ?_)
                              refine lv_goto (tgt := 63) hx hb dX8_shut_152 (by decide) ?_
                              exact ih_63 x59 v5_63 _ _ ls (by omega) (by omega) hG hS (lv_sub hl [0, 3, 4, 5, 6, 7, 8] rfl)
                            · exfalso; omega
                          · skip
                            refine ty_iconst hx hb (1) dX8_shut_109 (by decide) (fun x62 h63 => ?_)
                            refine lv_goto (tgt := 114) hx hb dX8_shut_110 (by decide) ?_
                            refine lv_istore (lv' := [(8, .int x62), (7, .ref b37), (6, .int v6_63), (5, .int v5_63), (4, .ref b5), (0, .ref h0), (1, .int p1), (2, .int p2), (3, .int p3)]) hx hb dX8_shut_114 hl (by decide) rfl (fun ls hl => ?_)
                            refine lv_iload hx hb dX8_shut_116 (lv_at hl 0 rfl) ?_
                            refine ty_if_eq (tgt := 149) hx hb dX8_shut_118 (by decide) (fun c64 => ?_) (fun c64 => ?_)
                            · exfalso; omega
                            · skip
                              refine lv_aload hx hb dX8_shut_121 (lv_at hl 1 rfl) ?_
                              refine get_X2_4 hx hb hA hown hE hG t_b37 wd_3_28 dX8_shut_123 (fun x65 => ?_)
                              refine lv_aload_n hx hb dX8_shut_126 rfl (lv_at hl 5 rfl) ?_
                              refine get_X8_9 hx hb hA hown hE hG t_h0 wd_1_166 dX8_shut_127 (fun x66 h67 => ?_)
                              refine ty_icmp_ne (tgt := 149) hx hb dX8_shut_130 (by decide) (fun c69 => ?_) (fun c69 => ?_)
                              · skip
                                obtain ⟨x70, h71⟩ : ∃ y : Int32, y = v6_63 + Int32.ofInt (1) := ⟨_, rfl⟩
                                try have h72 : x70.toInt = v6_63.toInt + (1) := ty_inc h71 (by decide) (by omega) (by omega)
                                refine lv_iinc (v := x70) (lv' := [(6, .int x70), (8, .int x62), (7, .ref b37), (5, .int v5_63), (4, .ref b5), (0, .ref h0), (1, .int p1), (2, .int p2), (3, .int p3)]) hx hb dX8_shut_149 hl (k := 2) rfl h71.symm (by decide) rfl (fun ls hl => ?_)
                                refine lv_goto (tgt := 63) hx hb dX8_shut_152 (by decide) ?_
                                exact ih_63 x70 v5_63 _ _ ls (by omega) (by omega) hG hS (lv_sub hl [0, 3, 4, 5, 6, 7, 8] rfl)
                              · skip
                                refine lv_aload hx hb dX8_shut_133 (lv_at hl 1 rfl) ?_
                                refine cI (va_runV (C := RX2) (As := []) (rest := []) ⟨hx, hb, hml, hown, hA⟩ (k_X2_isOut l dC dI dA sz X Γ hU g b37 t_b37   ) ⟨callB_of 0 hA (al_A wd_2_63) rfl rfl rfl (hA _ wd_1_15) (hA _ wd_2_60) (by decide +kernel) ⟨Nat.le_of_ble_eq_true rfl, Nat.le_of_ble_eq_true rfl⟩, hA _ wd_2_61, hA _ wd_2_62⟩ ⟨bl, recv_X2 hE hG t_b37, fun U hU9 hW9 => ⟨rfl, by rw [hU9]; exact hG, hE.go hS hU9 hW9⟩⟩ rfl rfl hl.1 rfl (lv_room (Nat.le_of_ble_eq_true rfl)) dX8_shut_135 ⟨Nat.zero_le _, Nat.zero_le _⟩) hS (fun x75 u73 H locs w74 hG hS => ?_)
                                obtain ⟨eu76, w74⟩ := w74
                                rw [eu76] at hG
                                refine ty_if_eq (tgt := 149) hx hb dX8_shut_138 (by decide) (fun c77 => ?_) (fun c77 => ?_)
                                · skip
                                  obtain ⟨x78, h79⟩ : ∃ y : Int32, y = v6_63 + Int32.ofInt (1) := ⟨_, rfl⟩
                                  try have h80 : x78.toInt = v6_63.toInt + (1) := ty_inc h79 (by decide) (by omega) (by omega)
                                  refine lv_iinc (v := x78) (lv' := [(6, .int x78), (8, .int x62), (7, .ref b37), (5, .int v5_63), (4, .ref b5), (0, .ref h0), (1, .int p1), (2, .int p2), (3, .int p3)]) hx hb dX8_shut_149 hl (k := 2) rfl h79.symm (by decide) rfl (fun ls hl => ?_)
                                  refine lv_goto (tgt := 63) hx hb dX8_shut_152 (by decide) ?_
                                  exact ih_63 x78 v5_63 _ _ ls (by omega) (by omega) hG hS (lv_sub hl [0, 3, 4, 5, 6, 7, 8] rfl)
                                · skip
                                  refine lv_aload hx hb dX8_shut_141 (lv_at hl 1 rfl) ?_
                                  refine cV (va_runV (C := RX2) (As := []) (rest := []) ⟨hx, hb, hml, hown, hA⟩ (k_X2_endByShutting l dC dI dA sz X Γ hU g b37 t_b37   ) ⟨callB_of 0 hA (al_A wd_3_215) rfl rfl rfl (hA _ wd_1_15) (hA _ wd_3_212) (by decide +kernel) ⟨Nat.le_of_ble_eq_true rfl, Nat.le_of_ble_eq_true rfl⟩, hA _ wd_3_213, hA _ wd_3_214⟩ ⟨bl, recv_X2 hE hG t_b37, fun U hU9 hW9 => ⟨rfl, by rw [hU9]; exact hG, hE.go hS hU9 hW9⟩⟩ rfl rfl hl.1 rfl (lv_room (Nat.le_of_ble_eq_true rfl)) dX8_shut_143 ⟨Nat.zero_le _, Nat.zero_le _⟩) hS (fun u81 H locs w82 hG hS => ?_)
                                  have eu83 := w82
                                  rw [eu83] at hG
                                  obtain ⟨x84, h85⟩ : ∃ y : Int32, y = v5_63 + Int32.ofInt (1) := ⟨_, rfl⟩
                                  try have h86 : x84.toInt = v5_63.toInt + (1) := ty_inc h85 (by decide) (by omega) (by omega)
                                  refine lv_iinc (v := x84) (lv' := [(5, .int x84), (8, .int x62), (7, .ref b37), (6, .int v6_63), (4, .ref b5), (0, .ref h0), (1, .int p1), (2, .int p2), (3, .int p3)]) hx hb dX8_shut_146 hl (k := 3) rfl h85.symm (by decide) rfl (fun ls hl => ?_)
                                  obtain ⟨x87, h88⟩ : ∃ y : Int32, y = v6_63 + Int32.ofInt (1) := ⟨_, rfl⟩
                                  try have h89 : x87.toInt = v6_63.toInt + (1) := ty_inc h88 (by decide) (by omega) (by omega)
                                  refine lv_iinc (v := x87) (lv' := [(6, .int x87), (5, .int x84), (8, .int x62), (7, .ref b37), (4, .ref b5), (0, .ref h0), (1, .int p1), (2, .int p2), (3, .int p3)]) hx hb dX8_shut_149 hl (k := 3) rfl h88.symm (by decide) rfl (fun ls hl => ?_)
                                  refine lv_goto (tgt := 63) hx hb dX8_shut_152 (by decide) ?_
                                  exact ih_63 x87 x84 _ _ ls (by omega) (by omega) hG hS (lv_sub hl [0, 1, 4, 5, 6, 7, 8] rfl)
                exact L_63 ((g 3 0 - x25.toInt) + 1).toNat x25 x23 _ _ ls (by omega) (by omega) hG hS (lv_sub hl [0, 1, 2, 3, 4, 5, 6] rfl)
              · skip
                refine lv_aload hx hb dX8_shut_42 (lv_at hl 1 rfl) ?_
                refine get_X1_4 hx hb hA hown hE hG t_b5 wd_1_221 dX8_shut_44 (fun b90 (t_b90 : ty Γ b90 14) => ?_)
                refine lv_iload hx hb dX8_shut_47 (lv_at hl 0 rfl) ?_
                refine ty_iconst hx hb (1) dX8_shut_49 (by decide) (fun x91 h92 => ?_)
                refine ast_14 hx hb hE hG hS t_b90 (by omega) (by omega) dX8_shut_50 (fun H locs hG hS => ?_)
                obtain ⟨x93, h94⟩ : ∃ y : Int32, y = v5_36 + Int32.ofInt (1) := ⟨_, rfl⟩
                try have h95 : x93.toInt = v5_36.toInt + (1) := ty_inc h94 (by decide) (by omega) (by omega)
                refine lv_iinc (v := x93) (lv' := [(5, .int x93), (4, .ref b5), (0, .ref h0), (1, .int p1), (2, .int p2), (3, .int p3)]) hx hb dX8_shut_51 hl (k := 0) rfl h94.symm (by decide) rfl (fun ls hl => ?_)
                refine lv_goto (tgt := 36) hx hb dX8_shut_54 (by decide) ?_
                exact ih_36 x93 _ _ ls (by omega) (by omega) hG hS (lv_sub hl [0, 1, 2, 3, 4, 5] rfl)
          exact L_36 ((53 - p2.toInt) + 1).toNat p2 _ _ ls (by omega) (by omega) hG hS (lv_sub hl [0, 1, 2, 3, 4, 5] rfl)
        · skip
          refine ty_iconst hx hb (-1) dX8_shut_31 (by decide) (fun x96 h97 => ?_)
          exact W.iret (v := x96) hx hb hr (fun t ht hW => ⟨⟨x96, g, rfl, rfl, ok1 ht hG⟩, hS.F ht⟩) hS.2.2 dX8_shut_32

set_option maxHeartbeats 4000000 in
set_option maxRecDepth 100000 in
/-- WeekBank.weeks:  -/
theorem k_X8_weeks (l : Launch) (dC : Nat → ClassId) (dI : Nat → Nat → Nat) (dA : Nat → ClassId) (sz : Nat) (X : va_W) (Γ : ty_G) (hU : Un Γ) (g : gh) (h0 : Nat) (t_h0 : ty Γ h0 1) (p1 : Int32) (g3 : g 3 0 = g 35 0 ∧ 0 ≤ g 3 0 ∧ g 3 0 ≤ 200) (g5 : 0 ≤ g 5 0 ∧ g 5 0 ≤ 52) : Met l yX8_weeks (.code yX8_weeks cX8_weeks 2 (Option.some Jvm.ClassFile.FieldType.int) :: AL) ({ frames := 1, cells := 0, slots := 0, locals := 24 }) (PCx dC dI dA sz X Γ g [.ref h0, .int p1]) (va_Qi (fun (r : Int32) (u : gh) => (∀ c j : Nat, c ≠ 5 → u c j = g c j) ∧ ((1 ≤ p1.toInt ∧ p1.toInt ≤ 52 - g 5 0 → r.toInt = g 5 0 + p1.toInt ∧ u 5 0 = r.toInt) ∧ (¬ (1 ≤ p1.toInt ∧ p1.toInt ≤ 52 - g 5 0) → r.toInt = -1 ∧ u 5 0 = g 5 0))) (okb dC dI dA sz X Γ) (ty_A sz)) 0 0 (ty_A sz) := by
  refine Met.ofW (cc := cX8_weeks) (maxL := 2) (ret := (Option.some Jvm.ClassFile.FieldType.int)) (by decide) rfl ?_
  intro p e s m args below meth c s₁ B hml hv
  obtain ⟨rfl, hG, hE⟩ := hv
  have hx := B.exec
  have hb := B.bytes
  have hr := B.returns
  have hts := atoms_spec B.pre
  have hA : ∀ w ∈ AL, w.before _ s = true := fun w h => hts w (List.mem_cons_of_mem _ h)
  have hown : s.vm.findClass RX8 = some m.cls := findClass_of_methodNamed B.named
  have hlocks := B.notSynchronized
  have hS : va_S (ty_A sz) s.heap s.heap [] := va_S.rf
  have hl := lv_entry ([.ref h0, .int p1]) (n := 2) (Nat.le_of_ble_eq_true rfl)
  rw [lg_entry_eq]
  generalize (lg_sl ([.ref h0, .int p1]) ++ List.replicate (2 - (lg_sl ([.ref h0, .int p1])).length) Slot.unset).toArray = ls at hl ⊢
  have hl : lv_has ls 2 [(0, .ref h0), (1, .int p1)] := hl
  refine lv_iload_n hx hb dX8_weeks_0 rfl (lv_at hl 1 rfl) ?_
  refine ty_iconst hx hb (1) dX8_weeks_1 (by decide) (fun x1 h2 => ?_)
  refine ty_icmp_lt (tgt := 16) hx hb dX8_weeks_2 (by decide) (fun c3 => ?_) (fun c3 => ?_)
  · skip
    refine ty_iconst hx hb (-1) dX8_weeks_16 (by decide) (fun x4 h5 => ?_)
    exact W.iret (v := x4) hx hb hr (fun t ht hW => ⟨⟨x4, g, rfl, ⟨(fun c j h5 => by rfl), (by omega)⟩, ok1 ht hG⟩, hS.F ht⟩) hS.2.2 dX8_weeks_17
  · skip
    refine lv_iload_n hx hb dX8_weeks_5 rfl (lv_at hl 1 rfl) ?_
    refine ty_bipush hx hb (52) dX8_weeks_6 (by decide) (fun x6 h7 => ?_)
    refine lv_aload_n hx hb dX8_weeks_8 rfl (lv_at hl 0 rfl) ?_
    refine get_X8_10 hx hb hA hown hE hG t_h0 wd_1_167 dX8_weeks_9 (fun x8 h9 => ?_)
    refine ty_isub hx hb dX8_weeks_12 (fun x11 h12 => ?_)
    try have h13 : x11.toInt = x6.toInt - x8.toInt := ty_sub h12 (by omega) (by omega)
    refine ty_icmp_le (tgt := 18) hx hb dX8_weeks_13 (by decide) (fun c14 => ?_) (fun c14 => ?_)
    · skip
      refine lv_aload_n hx hb dX8_weeks_18 rfl (lv_at hl 0 rfl) ?_
      refine lv_dup hx hb dX8_weeks_19 rfl ?_
      refine get_X8_10 hx hb hA hown hE hG t_h0 wd_1_167 dX8_weeks_20 (fun x15 h16 => ?_)
      refine lv_iload_n hx hb dX8_weeks_23 rfl (lv_at hl 1 rfl) ?_
      refine ty_iadd hx hb dX8_weeks_24 (fun x18 h19 => ?_)
      try have h20 : x18.toInt = x15.toInt + p1.toInt := ty_add h19 (by omega) (by omega)
      refine put_X8_10 hx hb hA hown hE hG hS hU t_h0 wd_1_167 dX8_weeks_25 (fun H locs hG hS => ?_)
      refine lv_aload_n hx hb dX8_weeks_28 rfl (lv_at hl 0 rfl) ?_
      refine lv_aload_n hx hb dX8_weeks_29 rfl (lv_at hl 0 rfl) ?_
      refine get_X8_10 hx hb hA hown hE hG t_h0 wd_1_167 dX8_weeks_30 (fun x21 h22 => ?_)
      replace h22 : x21.toInt = x18.toInt := by rw [h22]; simp [gs]
      have e24 : (gs g 5 0 x18.toInt) 3 0 = g 3 0 := by simp [gs]
      have e25 : (gs g 5 0 x18.toInt) 35 0 = g 35 0 := by simp [gs]
      refine cV (va_runV (C := RX8) (As := [.int x21]) (rest := []) ⟨hx, hb, hml, hown, hA⟩ (k_X8_endUnusedGifts l dC dI dA sz X Γ hU (gs g 5 0 x18.toInt) h0 t_h0 x21   (by omega)) ⟨callB_of 1 hA (al_A wd_3_224) rfl rfl rfl (hA _ wd_1_1) (hA _ wd_3_221) (by decide +kernel) ⟨Nat.le_of_ble_eq_true rfl, Nat.le_of_ble_eq_true rfl⟩, hA _ wd_3_223, hA _ ws_30⟩ ⟨bl, recv_X8 hE hG t_h0, fun U hU9 hW9 => ⟨rfl, by rw [hU9]; exact hG, hE.go hS hU9 hW9⟩⟩ rfl rfl hl.1 rfl (lv_room (Nat.le_of_ble_eq_true rfl)) dX8_weeks_33 ⟨Nat.zero_le _, Nat.zero_le _⟩) hS (fun u26 H locs w27 hG hS => ?_)
      have eu28 := w27
      rw [eu28] at hG
      refine lv_aload_n hx hb dX8_weeks_36 rfl (lv_at hl 0 rfl) ?_
      refine get_X8_10 hx hb hA hown hE hG t_h0 wd_1_167 dX8_weeks_37 (fun x29 h30 => ?_)
      replace h30 : x29.toInt = x18.toInt := by rw [h30]; simp [gs]
      have e32 : (gs g 5 0 x18.toInt) 5 0 = x18.toInt := by simp [gs]
      exact W.iret (v := x29) hx hb hr (fun t ht hW => ⟨⟨x29, (gs g 5 0 x18.toInt), rfl, ⟨(fun c j h5 => by rw [gs_c _ _ _ _ h5]), (by omega)⟩, ok1 ht hG⟩, hS.F ht⟩) hS.2.2 dX8_weeks_40
    · skip
      refine ty_iconst hx hb (-1) dX8_weeks_16 (by decide) (fun x33 h34 => ?_)
      exact W.iret (v := x33) hx hb hr (fun t ht hW => ⟨⟨x33, g, rfl, ⟨(fun c j h5 => by rfl), (by omega)⟩, ok1 ht hG⟩, hS.F ht⟩) hS.2.2 dX8_weeks_17

set_option maxHeartbeats 4000000 in
set_option maxRecDepth 100000 in
/-- WeekBank.year:  -/
theorem k_X8_year (l : Launch) (dC : Nat → ClassId) (dI : Nat → Nat → Nat) (dA : Nat → ClassId) (sz : Nat) (X : va_W) (Γ : ty_G) (hU : Un Γ) (g : gh) (h0 : Nat) (t_h0 : ty Γ h0 1) (g1 : g 1 0 = g 33 0 ∧ 0 ≤ g 1 0 ∧ g 1 0 ≤ 6) (g3 : g 3 0 = g 35 0 ∧ 0 ≤ g 3 0 ∧ g 3 0 ≤ 200) (f7 : 0 ≤ g 4 0 ∧ g 4 0 ≤ 100000) : Met l yX8_year (.code yX8_year cX8_year 2 (Option.some Jvm.ClassFile.FieldType.int) :: AL) ({ frames := 1, cells := 0, slots := 0, locals := 24 }) (PCx dC dI dA sz X Γ g [.ref h0]) (va_Qi (fun (r : Int32) (u : gh) => (∀ c j : Nat, c ≠ 4 → c ≠ 5 → u c j = g c j) ∧ ((r.toInt = g 4 0 + 1) ∧ (u 4 0 = g 4 0 + 1) ∧ (u 5 0 = 0))) (okb dC dI dA sz X Γ) (ty_A sz)) 0 0 (ty_A sz) := by
  refine Met.ofW (cc := cX8_year) (maxL := 2) (ret := (Option.some Jvm.ClassFile.FieldType.int)) (by decide) rfl ?_
  intro p e s m args below meth c s₁ B hml hv
  obtain ⟨rfl, hG, hE⟩ := hv
  have hx := B.exec
  have hb := B.bytes
  have hr := B.returns
  have hts := atoms_spec B.pre
  have hA : ∀ w ∈ AL, w.before _ s = true := fun w h => hts w (List.mem_cons_of_mem _ h)
  have hown : s.vm.findClass RX8 = some m.cls := findClass_of_methodNamed B.named
  have hlocks := B.notSynchronized
  have hS : va_S (ty_A sz) s.heap s.heap [] := va_S.rf
  have hl := lv_entry ([.ref h0]) (n := 2) (Nat.le_of_ble_eq_true rfl)
  rw [lg_entry_eq]
  generalize (lg_sl ([.ref h0]) ++ List.replicate (2 - (lg_sl ([.ref h0])).length) Slot.unset).toArray = ls at hl ⊢
  have hl : lv_has ls 2 [(0, .ref h0)] := hl
  refine lv_aload_n hx hb dX8_year_0 rfl (lv_at hl 0 rfl) ?_
  refine ty_bipush hx hb (52) dX8_year_1 (by decide) (fun x1 h2 => ?_)
  refine cV (va_runV (C := RX8) (As := [.int x1]) (rest := []) ⟨hx, hb, hml, hown, hA⟩ (k_X8_endUnusedGifts l dC dI dA sz X Γ hU g h0 t_h0 x1   (by omega)) ⟨callB_of 1 hA (al_A wd_3_224) rfl rfl rfl (hA _ wd_1_1) (hA _ wd_3_221) (by decide +kernel) ⟨Nat.le_of_ble_eq_true rfl, Nat.le_of_ble_eq_true rfl⟩, hA _ wd_3_223, hA _ ws_30⟩ ⟨bl, recv_X8 hE hG t_h0, fun U hU9 hW9 => ⟨rfl, by rw [hU9]; exact hG, hE.go hS hU9 hW9⟩⟩ rfl rfl hl.1 rfl (lv_room (Nat.le_of_ble_eq_true rfl)) dX8_year_3 ⟨Nat.zero_le _, Nat.zero_le _⟩) hS (fun u3 H locs w4 hG hS => ?_)
  have eu5 := w4
  rw [eu5] at hG
  refine ty_iconst hx hb (0) dX8_year_6 (by decide) (fun x6 h7 => ?_)
  refine lv_istore_n (lv' := [(1, .int x6), (0, .ref h0)]) hx hb dX8_year_7 rfl hl (by decide) rfl (fun ls hl => ?_)
  have L_8 : ∀ (n : Nat) (v1_8 : Int32) (H : Heap) (locs : List Loc) (ls : Array Slot), (g 1 0 - v1_8.toInt : Int) < n → 0 ≤ v1_8.toInt ∧ v1_8.toInt ≤ g 1 0 → ty_ok (dC, dI) vwCl Γ (TP dA Γ g) sz X H → va_S (ty_A sz) s.heap H locs → lv_has ls 2 [(1, .int v1_8), (0, .ref h0)] → W p l e (headSpec (.code yX8_year cX8_year 2 (Option.some Jvm.ClassFile.FieldType.int) :: AL) ({ frames := 1, cells := 0, slots := 0, locals := 24 })).room s m ([.ref h0] : List Value).toArray below meth c H locs 0 0 (MQ below (va_Qi (fun (r : Int32) (u : gh) => (∀ c j : Nat, c ≠ 4 → c ≠ 5 → u c j = g c j) ∧ ((r.toInt = g 4 0 + 1) ∧ (u 4 0 = g 4 0 + 1) ∧ (u 5 0 = 0))) (okb dC dI dA sz X Γ) (ty_A sz)) ([.ref h0] : List Value).toArray s 0 0 (ty_A sz)) (F0 m 8 ls []) := by
    intro n
    induction n with
    | zero => intro v1_8 H locs ls hm hi0 hG hS hl; exfalso; omega
    | succ n ih_8 =>
      intro v1_8 H locs ls hm hi0 hG hS hl
      refine lv_iload_n hx hb dX8_year_8 rfl (lv_at hl 0 rfl) ?_
      refine lv_aload_n hx hb dX8_year_9 rfl (lv_at hl 1 rfl) ?_
      refine get_X8_1 hx hb hA hown hE hG t_h0 wd_1_158 dX8_year_10 (fun x9 h10 => ?_)
      refine ty_icmp_ge (tgt := 31) hx hb dX8_year_13 (by decide) (fun c12 => ?_) (fun c12 => ?_)
      · skip
        refine lv_aload_n hx hb dX8_year_31 rfl (lv_at hl 1 rfl) ?_
        refine ty_iconst hx hb (0) dX8_year_32 (by decide) (fun x13 h14 => ?_)
        refine put_X8_10 hx hb hA hown hE hG hS hU t_h0 wd_1_167 dX8_year_33 (fun H locs hG hS => ?_)
        refine lv_aload_n hx hb dX8_year_36 rfl (lv_at hl 1 rfl) ?_
        refine lv_dup hx hb dX8_year_37 rfl ?_
        refine get_X8_9 hx hb hA hown hE hG t_h0 wd_1_166 dX8_year_38 (fun x15 h16 => ?_)
        replace h16 : x15.toInt = g 4 0 := by rw [h16]; simp [gs]
        refine ty_iconst hx hb (1) dX8_year_41 (by decide) (fun x18 h19 => ?_)
        refine ty_iadd hx hb dX8_year_42 (fun x20 h21 => ?_)
        try have h22 : x20.toInt = x15.toInt + x18.toInt := ty_add h21 (by omega) (by omega)
        refine put_X8_9 hx hb hA hown hE hG hS hU t_h0 wd_1_166 dX8_year_43 (fun H locs hG hS => ?_)
        refine lv_aload_n hx hb dX8_year_46 rfl (lv_at hl 1 rfl) ?_
        refine get_X8_9 hx hb hA hown hE hG t_h0 wd_1_166 dX8_year_47 (fun x23 h24 => ?_)
        replace h24 : x23.toInt = x20.toInt := by rw [h24]; simp [gs]
        have e26 : (gs (gs g 5 0 x13.toInt) 4 0 x20.toInt) 4 0 = x20.toInt := by simp [gs]
        have e27 : (gs (gs g 5 0 x13.toInt) 4 0 x20.toInt) 5 0 = x13.toInt := by simp [gs]
        exact W.iret (v := x23) hx hb hr (fun t ht hW => ⟨⟨x23, (gs (gs g 5 0 x13.toInt) 4 0 x20.toInt), rfl, ⟨(fun c j h4 h5 => by rw [gs_c _ _ _ _ h4, gs_c _ _ _ _ h5]), (by omega)⟩, ok1 ht hG⟩, hS.F ht⟩) hS.2.2 dX8_year_50
      · skip
        refine lv_aload_n hx hb dX8_year_16 rfl (lv_at hl 1 rfl) ?_
        refine get_X8_0 hx hb hA hown hE hG t_h0 wd_1_157 dX8_year_17 (fun b28 (t_b28 : ty Γ b28 10) => ?_)
        refine lv_iload_n hx hb dX8_year_20 rfl (lv_at hl 0 rfl) ?_
        refine ald_10 hx hb hE hG t_b28 (by omega) dX8_year_21 (fun j30 r29 h31 t_r29 h32 => ?_)
        obtain ⟨b33, rfl⟩ := Option.ne_none_iff_exists'.mp (h32 (by omega))
        have t_b33 : ty Γ b33 2 := t_r29 b33 rfl
        have hl : lv_has ls 2 [(1, .int v1_8), (0, .ref h0)] := hl
        refine cV (va_runV (C := RX1) (As := []) (rest := []) ⟨hx, hb, hml, hown, hA⟩ (k_X1_beginYear l dC dI dA sz X Γ hU g b33 t_b33   ) ⟨callB_of 0 hA (al_A wd_3_232) rfl rfl rfl (hA _ wd_1_8) (hA _ wd_3_229) (by decide +kernel) ⟨Nat.le_of_ble_eq_true rfl, Nat.le_of_ble_eq_true rfl⟩, hA _ wd_3_230, hA _ wd_3_231⟩ ⟨bl, recv_X1 hE hG t_b33, fun U hU9 hW9 => ⟨rfl, by rw [hU9]; exact hG, hE.go hS hU9 hW9⟩⟩ rfl rfl hl.1 rfl (lv_room (Nat.le_of_ble_eq_true rfl)) dX8_year_22 ⟨Nat.zero_le _, Nat.zero_le _⟩) hS (fun u34 H locs w35 hG hS => ?_)
        have eu36 := w35
        rw [eu36] at hG
        obtain ⟨x37, h38⟩ : ∃ y : Int32, y = v1_8 + Int32.ofInt (1) := ⟨_, rfl⟩
        try have h39 : x37.toInt = v1_8.toInt + (1) := ty_inc h38 (by decide) (by omega) (by omega)
        refine lv_iinc (v := x37) (lv' := [(1, .int x37), (0, .ref h0)]) hx hb dX8_year_25 hl (k := 0) rfl h38.symm (by decide) rfl (fun ls hl => ?_)
        refine lv_goto (tgt := 8) hx hb dX8_year_28 (by decide) ?_
        exact ih_8 x37 _ _ ls (by omega) (by omega) hG hS (lv_sub hl [0, 1] rfl)
  exact L_8 ((g 1 0 - x6.toInt) + 1).toNat x6 _ _ ls (by omega) (by omega) hG hS (lv_sub hl [0, 1] rfl)

set_option maxHeartbeats 4000000 in
set_option maxRecDepth 100000 in
/-- WeekBank.dies:  -/
theorem k_X8_dies (l : Launch) (dC : Nat → ClassId) (dI : Nat → Nat → Nat) (dA : Nat → ClassId) (sz : Nat) (X : va_W) (Γ : ty_G) (hU : Un Γ) (g : gh) (h0 : Nat) (t_h0 : ty Γ h0 1) (p1 : Int32) (p2 : Int32) (p3 : Int32) (g1 : g 1 0 = g 33 0 ∧ 0 ≤ g 1 0 ∧ g 1 0 ≤ 6) (g2 : g 2 0 = g 34 0 ∧ 0 ≤ g 2 0 ∧ g 2 0 ≤ 10) (g3 : g 3 0 = g 35 0 ∧ 0 ≤ g 3 0 ∧ g 3 0 ≤ 200) : Met l yX8_dies (.code yX8_dies cX8_dies 8 (Option.some Jvm.ClassFile.FieldType.int) :: AL) ({ frames := 3, cells := 0, slots := 0, locals := 67 }) (PCx dC dI dA sz X Γ g [.ref h0, .int p1, .int p2, .int p3]) (va_Qi (fun (r : Int32) (u : gh) => u = g) (okb dC dI dA sz X Γ) (ty_A sz)) 0 0 (ty_A sz) := by
  refine Met.ofW (cc := cX8_dies) (maxL := 8) (ret := (Option.some Jvm.ClassFile.FieldType.int)) (by decide) rfl ?_
  intro p e s m args below meth c s₁ B hml hv
  obtain ⟨rfl, hG, hE⟩ := hv
  have hx := B.exec
  have hb := B.bytes
  have hr := B.returns
  have hts := atoms_spec B.pre
  have hA : ∀ w ∈ AL, w.before _ s = true := fun w h => hts w (List.mem_cons_of_mem _ h)
  have hown : s.vm.findClass RX8 = some m.cls := findClass_of_methodNamed B.named
  have hlocks := B.notSynchronized
  have hS : va_S (ty_A sz) s.heap s.heap [] := va_S.rf
  have hl := lv_entry ([.ref h0, .int p1, .int p2, .int p3]) (n := 8) (Nat.le_of_ble_eq_true rfl)
  rw [lg_entry_eq]
  generalize (lg_sl ([.ref h0, .int p1, .int p2, .int p3]) ++ List.replicate (8 - (lg_sl ([.ref h0, .int p1, .int p2, .int p3])).length) Slot.unset).toArray = ls at hl ⊢
  have hl : lv_has ls 8 [(0, .ref h0), (1, .int p1), (2, .int p2), (3, .int p3)] := hl
  refine lv_aload_n hx hb dX8_dies_0 rfl (lv_at hl 0 rfl) ?_
  refine lv_iload_n hx hb dX8_dies_1 rfl (lv_at hl 1 rfl) ?_
  refine cQ (va_runV (C := RX8) (As := [.int p1]) (rest := []) ⟨hx, hb, hml, hown, hA⟩ (k_X8_livingOwnerAt l dC dI dA sz X Γ hU g h0 t_h0 p1   (by omega)) ⟨callB_of 1 hA (al_A wd_2_52) rfl rfl rfl (hA _ wd_1_1) (hA _ wd_2_49) (by decide +kernel) ⟨Nat.le_of_ble_eq_true rfl, Nat.le_of_ble_eq_true rfl⟩, hA _ wd_2_51, hA _ ws_1⟩ ⟨bl, recv_X8 hE hG t_h0, fun U hU9 hW9 => ⟨rfl, by rw [hU9]; exact hG, hE.go hS hU9 hW9⟩⟩ rfl rfl hl.1 rfl (lv_room (Nat.le_of_ble_eq_true rfl)) dX8_dies_2 ⟨Nat.zero_le _, Nat.zero_le _⟩) hS (fun r3 u1 H locs w2 hG hS => ?_)
  obtain ⟨t_r3, w2⟩ := w2
  have eu4 := w2
  rw [eu4] at hG
  refine ty_astoreq (lv' := [(4, va_rf r3), (0, .ref h0), (1, .int p1), (2, .int p2), (3, .int p3)]) hx hb dX8_dies_5 hl (by decide) rfl (fun ls hl => ?_)
  refine lv_aload_n hx hb dX8_dies_7 rfl (lv_at hl 1 rfl) ?_
  refine lv_iload_n hx hb dX8_dies_8 rfl (lv_at hl 3 rfl) ?_
  refine cQ (va_runV (C := RX8) (As := [.int p2]) (rest := []) ⟨hx, hb, hml, hown, hA⟩ (k_X8_livingOwnerAt l dC dI dA sz X Γ hU g h0 t_h0 p2   (by omega)) ⟨callB_of 1 hA (al_A wd_2_52) rfl rfl rfl (hA _ wd_1_1) (hA _ wd_2_49) (by decide +kernel) ⟨Nat.le_of_ble_eq_true rfl, Nat.le_of_ble_eq_true rfl⟩, hA _ wd_2_51, hA _ ws_1⟩ ⟨bl, recv_X8 hE hG t_h0, fun U hU9 hW9 => ⟨rfl, by rw [hU9]; exact hG, hE.go hS hU9 hW9⟩⟩ rfl rfl hl.1 rfl (lv_room (Nat.le_of_ble_eq_true rfl)) dX8_dies_9 ⟨Nat.zero_le _, Nat.zero_le _⟩) hS (fun r7 u5 H locs w6 hG hS => ?_)
  obtain ⟨t_r7, w6⟩ := w6
  have eu8 := w6
  rw [eu8] at hG
  refine ty_astoreq (lv' := [(5, va_rf r7), (4, va_rf r3), (0, .ref h0), (1, .int p1), (2, .int p2), (3, .int p3)]) hx hb dX8_dies_12 hl (by decide) (by cases r3 <;> rfl) (fun ls hl => ?_)
  refine ty_aloadq hx hb dX8_dies_14 (lv_at hl 1 rfl) ?_
  refine ty_ifnull (tgt := 31) hx hb dX8_dies_16 (by decide) (fun h10 => ?_) (fun b9 h10 => ?_)
  · skip
    subst h10
    have hl : lv_has ls 8 [(5, va_rf r7), (4, .null), (0, .ref h0), (1, .int p1), (2, .int p2), (3, .int p3)] := hl
    refine ty_iconst hx hb (-1) dX8_dies_31 (by decide) (fun x11 h12 => ?_)
    exact W.iret (v := x11) hx hb hr (fun t ht hW => ⟨⟨x11, g, rfl, rfl, ok1 ht hG⟩, hS.F ht⟩) hS.2.2 dX8_dies_32
  · skip
    subst h10
    have t_b9 : ty Γ b9 3 := t_r3 b9 rfl
    have hl : lv_has ls 8 [(5, va_rf r7), (4, .ref b9), (0, .ref h0), (1, .int p1), (2, .int p2), (3, .int p3)] := hl
    refine ty_aloadq hx hb dX8_dies_19 (lv_at hl 0 rfl) ?_
    refine ty_ifnull (tgt := 31) hx hb dX8_dies_21 (by decide) (fun h14 => ?_) (fun b13 h14 => ?_)
    · skip
      subst h14
      have hl : lv_has ls 8 [(5, .null), (4, .ref b9), (0, .ref h0), (1, .int p1), (2, .int p2), (3, .int p3)] := hl
      refine ty_iconst hx hb (-1) dX8_dies_31 (by decide) (fun x15 h16 => ?_)
      exact W.iret (v := x15) hx hb hr (fun t ht hW => ⟨⟨x15, g, rfl, rfl, ok1 ht hG⟩, hS.F ht⟩) hS.2.2 dX8_dies_32
    · skip
      subst h14
      have t_b13 : ty Γ b13 3 := t_r7 b13 rfl
      have hl : lv_has ls 8 [(5, .ref b13), (4, .ref b9), (0, .ref h0), (1, .int p1), (2, .int p2), (3, .int p3)] := hl
      refine lv_aload hx hb dX8_dies_24 (lv_at hl 1 rfl) ?_
      refine lv_aload hx hb dX8_dies_26 (lv_at hl 0 rfl) ?_
      refine lv_acmp_ne (rx := some b9) (ry := some b13) (tgt := 33) hx hb dX8_dies_28 (by decide) (fun h17 => ?_) (fun h17 => ?_)
      · skip
        refine ty_iconst hx hb (0) dX8_dies_33 (by decide) (fun x18 h19 => ?_)
        refine lv_istore (lv' := [(6, .int x18), (5, .ref b13), (4, .ref b9), (0, .ref h0), (1, .int p1), (2, .int p2), (3, .int p3)]) hx hb dX8_dies_34 hl (by decide) rfl (fun ls hl => ?_)
        have L_36 : ∀ (n : Nat) (v6_36 : Int32) (H : Heap) (locs : List Loc) (ls : Array Slot), (g 3 0 - v6_36.toInt : Int) < n → 0 ≤ v6_36.toInt ∧ v6_36.toInt ≤ g 3 0 → ty_ok (dC, dI) vwCl Γ (TP dA Γ g) sz X H → va_S (ty_A sz) s.heap H locs → lv_has ls 8 [(6, .int v6_36), (5, .ref b13), (4, .ref b9), (0, .ref h0), (1, .int p1), (2, .int p2), (3, .int p3)] → W p l e (headSpec (.code yX8_dies cX8_dies 8 (Option.some Jvm.ClassFile.FieldType.int) :: AL) ({ frames := 3, cells := 0, slots := 0, locals := 67 })).room s m ([.ref h0, .int p1, .int p2, .int p3] : List Value).toArray below meth c H locs 0 0 (MQ below (va_Qi (fun (r : Int32) (u : gh) => u = g) (okb dC dI dA sz X Γ) (ty_A sz)) ([.ref h0, .int p1, .int p2, .int p3] : List Value).toArray s 0 0 (ty_A sz)) (F0 m 36 ls []) := by
          intro n
          induction n with
          | zero => intro v6_36 H locs ls hm hi0 hG hS hl; exfalso; omega
          | succ n ih_36 =>
            intro v6_36 H locs ls hm hi0 hG hS hl
            refine lv_iload hx hb dX8_dies_36 (lv_at hl 0 rfl) ?_
            refine lv_aload_n hx hb dX8_dies_38 rfl (lv_at hl 3 rfl) ?_
            refine get_X8_5 hx hb hA hown hE hG t_h0 wd_1_162 dX8_dies_39 (fun x21 h22 => ?_)
            refine ty_icmp_ge (tgt := 90) hx hb dX8_dies_42 (by decide) (fun c24 => ?_) (fun c24 => ?_)
            · skip
              refine lv_aload_n hx hb dX8_dies_90 rfl (lv_at hl 3 rfl) ?_
              refine get_X8_7 hx hb hA hown hE hG t_h0 wd_1_164 dX8_dies_91 (fun b25 i26 t_b25 h27 h27' => ?_)
              refine get_X6_3 hx hb hA hown hE hG t_b25 wd_1_85 dX8_dies_94 (fun x28 h29 h30 => ?_)
              refine ty_if_ne (tgt := 104) hx hb dX8_dies_97 (by decide) (fun c31 => ?_) (fun c31 => ?_)
              · skip
                refine ty_iconst hx hb (1) dX8_dies_104 (by decide) (fun x32 h33 => ?_)
                refine lv_goto (tgt := 109) hx hb dX8_dies_105 (by decide) ?_
                refine lv_istore (lv' := [(6, .int x32), (5, .ref b13), (4, .ref b9), (0, .ref h0), (1, .int p1), (2, .int p2), (3, .int p3)]) hx hb dX8_dies_109 hl (by decide) rfl (fun ls hl => ?_)
                refine lv_iload hx hb dX8_dies_111 (lv_at hl 0 rfl) ?_
                refine ty_if_eq (tgt := 124) hx hb dX8_dies_113 (by decide) (fun c34 => ?_) (fun c34 => ?_)
                · exfalso; omega
                · skip
                  refine lv_aload hx hb dX8_dies_116 (lv_at hl 2 rfl) ?_
                  refine get_X3_4 hx hb hA hown hE hG t_b9 wd_2_17 dX8_dies_118 (fun x35 => ?_)
                  refine lv_goto (tgt := 125) hx hb dX8_dies_121 (by decide) ?_
                  refine lv_istore (lv' := [(7, .int x35), (6, .int x32), (5, .ref b13), (4, .ref b9), (0, .ref h0), (1, .int p1), (2, .int p2), (3, .int p3)]) hx hb dX8_dies_125 hl (by decide) rfl (fun ls hl => ?_)
                  refine lv_aload_n hx hb dX8_dies_127 rfl (lv_at hl 4 rfl) ?_
                  refine lv_aload hx hb dX8_dies_128 (lv_at hl 3 rfl) ?_
                  refine lv_iload hx hb dX8_dies_130 (lv_at hl 1 rfl) ?_
                  refine ty_if_eq (tgt := 140) hx hb dX8_dies_132 (by decide) (fun c36 => ?_) (fun c36 => ?_)
                  · exfalso; omega
                  · skip
                    refine lv_aload hx hb dX8_dies_135 (lv_at hl 2 rfl) ?_
                    refine lv_goto (tgt := 141) hx hb dX8_dies_137 (by decide) ?_
                    refine cV (va_runV (C := RX8) (As := [.ref b9, .ref b13]) (rest := []) ⟨hx, hb, hml, hown, hA⟩ (k_X8_passAllWeeks l dC dI dA sz X Γ hU g h0 t_h0 b9 t_b9 (some b13) (fun _ h => by cases h; exact t_b13)   (by omega)) ⟨callB_of 2 hA (al_A wd_4_0) rfl rfl rfl (hA _ wd_1_1) (hA _ wd_3_237) (by decide +kernel) ⟨Nat.le_of_ble_eq_true rfl, Nat.le_of_ble_eq_true rfl⟩, hA _ wd_3_239, hA _ ws_31⟩ ⟨bl, recv_X8 hE hG t_h0, fun U hU9 hW9 => ⟨rfl, by rw [hU9]; exact hG, hE.go hS hU9 hW9⟩⟩ rfl rfl hl.1 rfl (lv_room (Nat.le_of_ble_eq_true rfl)) dX8_dies_141 ⟨Nat.zero_le _, Nat.zero_le _⟩) hS (fun u37 H locs w38 hG hS => ?_)
                    have eu39 := w38
                    rw [eu39] at hG
                    refine lv_iload hx hb dX8_dies_144 (lv_at hl 1 rfl) ?_
                    refine ty_if_eq (tgt := 164) hx hb dX8_dies_146 (by decide) (fun c40 => ?_) (fun c40 => ?_)
                    · exfalso; omega
                    · skip
                      refine lv_aload hx hb dX8_dies_149 (lv_at hl 2 rfl) ?_
                      refine lv_dup hx hb dX8_dies_151 rfl ?_
                      refine get_X3_2 hx hb hA hown hE hG t_b13 wd_2_12 dX8_dies_152 (fun x41 => ?_)
                      refine lv_aload hx hb dX8_dies_155 (lv_at hl 3 rfl) ?_
                      refine get_X3_2 hx hb hA hown hE hG t_b9 wd_2_12 dX8_dies_157 (fun x42 => ?_)
                      refine ty_iadd hx hb dX8_dies_160 (fun x43 h44 => ?_)
                      refine put_X3_2 hx hb hA hown hE hG hS t_b13 wd_2_12 dX8_dies_161 (fun H locs hG hS => ?_)
                      refine lv_aload hx hb dX8_dies_164 (lv_at hl 3 rfl) ?_
                      refine ty_iconst hx hb (0) dX8_dies_166 (by decide) (fun x46 h47 => ?_)
                      refine put_X3_2 hx hb hA hown hE hG hS t_b9 wd_2_12 dX8_dies_167 (fun H locs hG hS => ?_)
                      refine lv_aload hx hb dX8_dies_170 (lv_at hl 3 rfl) ?_
                      refine lv_null hx hb dX8_dies_172 ?_
                      refine put_X3_7 (r := none) hx hb hA hown hE hG hS t_b9 wd_2_23 (fun _ h => by cases h) dX8_dies_173 (fun H locs hG hS => ?_)
                      refine lv_aload hx hb dX8_dies_176 (lv_at hl 3 rfl) ?_
                      refine ty_iconst hx hb (1) dX8_dies_178 (by decide) (fun x48 h49 => ?_)
                      refine put_X3_5 hx hb hA hown hE hG hS t_b9 wd_2_19 (by omega) dX8_dies_179 (fun H locs hG hS => ?_)
                      refine lv_iload hx hb dX8_dies_182 (lv_at hl 0 rfl) ?_
                      exact W.iret (v := x35) hx hb hr (fun t ht hW => ⟨⟨x35, g, rfl, rfl, ok1 ht hG⟩, hS.F ht⟩) hS.2.2 dX8_dies_184
              · skip
                refine lv_iload_n hx hb dX8_dies_100 rfl (lv_at hl 6 rfl) ?_
                refine ty_if_eq (tgt := 108) hx hb dX8_dies_101 (by decide) (fun c50 => ?_) (fun c50 => ?_)
                · skip
                  refine ty_iconst hx hb (0) dX8_dies_108 (by decide) (fun x51 h52 => ?_)
                  refine lv_istore (lv' := [(6, .int x51), (5, .ref b13), (4, .ref b9), (0, .ref h0), (1, .int p1), (2, .int p2), (3, .int p3)]) hx hb dX8_dies_109 hl (by decide) rfl (fun ls hl => ?_)
                  refine lv_iload hx hb dX8_dies_111 (lv_at hl 0 rfl) ?_
                  refine ty_if_eq (tgt := 124) hx hb dX8_dies_113 (by decide) (fun c53 => ?_) (fun c53 => ?_)
                  · skip
                    refine ty_iconst hx hb (0) dX8_dies_124 (by decide) (fun x54 h55 => ?_)
                    refine lv_istore (lv' := [(7, .int x54), (6, .int x51), (5, .ref b13), (4, .ref b9), (0, .ref h0), (1, .int p1), (2, .int p2), (3, .int p3)]) hx hb dX8_dies_125 hl (by decide) rfl (fun ls hl => ?_)
                    refine lv_aload_n hx hb dX8_dies_127 rfl (lv_at hl 4 rfl) ?_
                    refine lv_aload hx hb dX8_dies_128 (lv_at hl 3 rfl) ?_
                    refine lv_iload hx hb dX8_dies_130 (lv_at hl 1 rfl) ?_
                    refine ty_if_eq (tgt := 140) hx hb dX8_dies_132 (by decide) (fun c56 => ?_) (fun c56 => ?_)
                    · skip
                      refine lv_null hx hb dX8_dies_140 ?_
                      refine cV (va_runV (C := RX8) (As := [.ref b9, .null]) (rest := []) ⟨hx, hb, hml, hown, hA⟩ (k_X8_passAllWeeks l dC dI dA sz X Γ hU g h0 t_h0 b9 t_b9 none (fun _ h => by cases h)   (by omega)) ⟨callB_of 2 hA (al_A wd_4_0) rfl rfl rfl (hA _ wd_1_1) (hA _ wd_3_237) (by decide +kernel) ⟨Nat.le_of_ble_eq_true rfl, Nat.le_of_ble_eq_true rfl⟩, hA _ wd_3_239, hA _ ws_31⟩ ⟨bl, recv_X8 hE hG t_h0, fun U hU9 hW9 => ⟨rfl, by rw [hU9]; exact hG, hE.go hS hU9 hW9⟩⟩ rfl rfl hl.1 rfl (lv_room (Nat.le_of_ble_eq_true rfl)) dX8_dies_141 ⟨Nat.zero_le _, Nat.zero_le _⟩) hS (fun u57 H locs w58 hG hS => ?_)
                      have eu59 := w58
                      rw [eu59] at hG
                      refine lv_iload hx hb dX8_dies_144 (lv_at hl 1 rfl) ?_
                      refine ty_if_eq (tgt := 164) hx hb dX8_dies_146 (by decide) (fun c60 => ?_) (fun c60 => ?_)
                      · skip
                        refine lv_aload hx hb dX8_dies_164 (lv_at hl 3 rfl) ?_
                        refine ty_iconst hx hb (0) dX8_dies_166 (by decide) (fun x61 h62 => ?_)
                        refine put_X3_2 hx hb hA hown hE hG hS t_b9 wd_2_12 dX8_dies_167 (fun H locs hG hS => ?_)
                        refine lv_aload hx hb dX8_dies_170 (lv_at hl 3 rfl) ?_
                        refine lv_null hx hb dX8_dies_172 ?_
                        refine put_X3_7 (r := none) hx hb hA hown hE hG hS t_b9 wd_2_23 (fun _ h => by cases h) dX8_dies_173 (fun H locs hG hS => ?_)
                        refine lv_aload hx hb dX8_dies_176 (lv_at hl 3 rfl) ?_
                        refine ty_iconst hx hb (1) dX8_dies_178 (by decide) (fun x63 h64 => ?_)
                        refine put_X3_5 hx hb hA hown hE hG hS t_b9 wd_2_19 (by omega) dX8_dies_179 (fun H locs hG hS => ?_)
                        refine lv_iload hx hb dX8_dies_182 (lv_at hl 0 rfl) ?_
                        exact W.iret (v := x54) hx hb hr (fun t ht hW => ⟨⟨x54, g, rfl, rfl, ok1 ht hG⟩, hS.F ht⟩) hS.2.2 dX8_dies_184
                      · exfalso; omega
                    · exfalso; omega
                  · exfalso; omega
                · skip
                  refine ty_iconst hx hb (1) dX8_dies_104 (by decide) (fun x65 h66 => ?_)
                  refine lv_goto (tgt := 109) hx hb dX8_dies_105 (by decide) ?_
                  refine lv_istore (lv' := [(6, .int x65), (5, .ref b13), (4, .ref b9), (0, .ref h0), (1, .int p1), (2, .int p2), (3, .int p3)]) hx hb dX8_dies_109 hl (by decide) rfl (fun ls hl => ?_)
                  refine lv_iload hx hb dX8_dies_111 (lv_at hl 0 rfl) ?_
                  refine ty_if_eq (tgt := 124) hx hb dX8_dies_113 (by decide) (fun c67 => ?_) (fun c67 => ?_)
                  · exfalso; omega
                  · skip
                    refine lv_aload hx hb dX8_dies_116 (lv_at hl 2 rfl) ?_
                    refine get_X3_4 hx hb hA hown hE hG t_b9 wd_2_17 dX8_dies_118 (fun x68 => ?_)
                    refine lv_goto (tgt := 125) hx hb dX8_dies_121 (by decide) ?_
                    refine lv_istore (lv' := [(7, .int x68), (6, .int x65), (5, .ref b13), (4, .ref b9), (0, .ref h0), (1, .int p1), (2, .int p2), (3, .int p3)]) hx hb dX8_dies_125 hl (by decide) rfl (fun ls hl => ?_)
                    refine lv_aload_n hx hb dX8_dies_127 rfl (lv_at hl 4 rfl) ?_
                    refine lv_aload hx hb dX8_dies_128 (lv_at hl 3 rfl) ?_
                    refine lv_iload hx hb dX8_dies_130 (lv_at hl 1 rfl) ?_
                    refine ty_if_eq (tgt := 140) hx hb dX8_dies_132 (by decide) (fun c69 => ?_) (fun c69 => ?_)
                    · exfalso; omega
                    · skip
                      refine lv_aload hx hb dX8_dies_135 (lv_at hl 2 rfl) ?_
                      refine lv_goto (tgt := 141) hx hb dX8_dies_137 (by decide) ?_
                      refine cV (va_runV (C := RX8) (As := [.ref b9, .ref b13]) (rest := []) ⟨hx, hb, hml, hown, hA⟩ (k_X8_passAllWeeks l dC dI dA sz X Γ hU g h0 t_h0 b9 t_b9 (some b13) (fun _ h => by cases h; exact t_b13)   (by omega)) ⟨callB_of 2 hA (al_A wd_4_0) rfl rfl rfl (hA _ wd_1_1) (hA _ wd_3_237) (by decide +kernel) ⟨Nat.le_of_ble_eq_true rfl, Nat.le_of_ble_eq_true rfl⟩, hA _ wd_3_239, hA _ ws_31⟩ ⟨bl, recv_X8 hE hG t_h0, fun U hU9 hW9 => ⟨rfl, by rw [hU9]; exact hG, hE.go hS hU9 hW9⟩⟩ rfl rfl hl.1 rfl (lv_room (Nat.le_of_ble_eq_true rfl)) dX8_dies_141 ⟨Nat.zero_le _, Nat.zero_le _⟩) hS (fun u70 H locs w71 hG hS => ?_)
                      have eu72 := w71
                      rw [eu72] at hG
                      refine lv_iload hx hb dX8_dies_144 (lv_at hl 1 rfl) ?_
                      refine ty_if_eq (tgt := 164) hx hb dX8_dies_146 (by decide) (fun c73 => ?_) (fun c73 => ?_)
                      · exfalso; omega
                      · skip
                        refine lv_aload hx hb dX8_dies_149 (lv_at hl 2 rfl) ?_
                        refine lv_dup hx hb dX8_dies_151 rfl ?_
                        refine get_X3_2 hx hb hA hown hE hG t_b13 wd_2_12 dX8_dies_152 (fun x74 => ?_)
                        refine lv_aload hx hb dX8_dies_155 (lv_at hl 3 rfl) ?_
                        refine get_X3_2 hx hb hA hown hE hG t_b9 wd_2_12 dX8_dies_157 (fun x75 => ?_)
                        refine ty_iadd hx hb dX8_dies_160 (fun x76 h77 => ?_)
                        refine put_X3_2 hx hb hA hown hE hG hS t_b13 wd_2_12 dX8_dies_161 (fun H locs hG hS => ?_)
                        refine lv_aload hx hb dX8_dies_164 (lv_at hl 3 rfl) ?_
                        refine ty_iconst hx hb (0) dX8_dies_166 (by decide) (fun x79 h80 => ?_)
                        refine put_X3_2 hx hb hA hown hE hG hS t_b9 wd_2_12 dX8_dies_167 (fun H locs hG hS => ?_)
                        refine lv_aload hx hb dX8_dies_170 (lv_at hl 3 rfl) ?_
                        refine lv_null hx hb dX8_dies_172 ?_
                        refine put_X3_7 (r := none) hx hb hA hown hE hG hS t_b9 wd_2_23 (fun _ h => by cases h) dX8_dies_173 (fun H locs hG hS => ?_)
                        refine lv_aload hx hb dX8_dies_176 (lv_at hl 3 rfl) ?_
                        refine ty_iconst hx hb (1) dX8_dies_178 (by decide) (fun x81 h82 => ?_)
                        refine put_X3_5 hx hb hA hown hE hG hS t_b9 wd_2_19 (by omega) dX8_dies_179 (fun H locs hG hS => ?_)
                        refine lv_iload hx hb dX8_dies_182 (lv_at hl 0 rfl) ?_
                        exact W.iret (v := x68) hx hb hr (fun t ht hW => ⟨⟨x68, g, rfl, rfl, ok1 ht hG⟩, hS.F ht⟩) hS.2.2 dX8_dies_184
            · skip
              refine lv_aload_n hx hb dX8_dies_45 rfl (lv_at hl 3 rfl) ?_
              refine get_X8_4 hx hb hA hown hE hG t_h0 wd_1_161 dX8_dies_46 (fun b83 (t_b83 : ty Γ b83 12) => ?_)
              refine lv_iload hx hb dX8_dies_49 (lv_at hl 0 rfl) ?_
              refine ald_12 hx hb hE hG t_b83 (by omega) dX8_dies_51 (fun j85 r84 h86 t_r84 h87 => ?_)
              obtain ⟨b88, rfl⟩ := Option.ne_none_iff_exists'.mp (h87 (by omega))
              have t_b88 : ty Γ b88 4 := t_r84 b88 rfl
              have hl : lv_has ls 8 [(6, .int v6_36), (5, .ref b13), (4, .ref b9), (0, .ref h0), (1, .int p1), (2, .int p2), (3, .int p3)] := hl
              refine get_X2_1 hx hb hA hown hE hG t_b88 wd_3_22 dX8_dies_52 (fun b89 (t_b89 : ty Γ b89 3) => ?_)
              refine lv_aload hx hb dX8_dies_55 (lv_at hl 2 rfl) ?_
              refine lv_acmp_ne (rx := some b89) (ry := some b9) (tgt := 84) hx hb dX8_dies_57 (by decide) (fun h90 => ?_) (fun h90 => ?_)
              · skip
                obtain ⟨x91, h92⟩ : ∃ y : Int32, y = v6_36 + Int32.ofInt (1) := ⟨_, rfl⟩
                try have h93 : x91.toInt = v6_36.toInt + (1) := ty_inc h92 (by decide) (by omega) (by omega)
                refine lv_iinc (v := x91) (lv' := [(6, .int x91), (5, .ref b13), (4, .ref b9), (0, .ref h0), (1, .int p1), (2, .int p2), (3, .int p3)]) hx hb dX8_dies_84 hl (k := 0) rfl h92.symm (by decide) rfl (fun ls hl => ?_)
                refine lv_goto (tgt := 36) hx hb dX8_dies_87 (by decide) ?_
                exact ih_36 x91 _ _ ls (by omega) (by omega) hG hS (lv_sub hl [0, 1, 2, 3, 4, 5, 6] rfl)
              · skip
                refine lv_aload_n hx hb dX8_dies_60 rfl (lv_at hl 3 rfl) ?_
                refine get_X8_4 hx hb hA hown hE hG t_h0 wd_1_161 dX8_dies_61 (fun b94 (t_b94 : ty Γ b94 12) => ?_)
                refine lv_iload hx hb dX8_dies_64 (lv_at hl 0 rfl) ?_
                refine ald_12 hx hb hE hG t_b94 (by omega) dX8_dies_66 (fun j96 r95 h97 t_r95 h98 => ?_)
                obtain ⟨b99, rfl⟩ := Option.ne_none_iff_exists'.mp (h98 (by omega))
                have t_b99 : ty Γ b99 4 := t_r95 b99 rfl
                have hl : lv_has ls 8 [(6, .int v6_36), (5, .ref b13), (4, .ref b9), (0, .ref h0), (1, .int p1), (2, .int p2), (3, .int p3)] := hl
                refine get_X2_6 hx hb hA hown hE hG t_b99 wd_3_34 dX8_dies_67 (fun x100 => ?_)
                refine ty_if_ne (tgt := 84) hx hb dX8_dies_70 (by decide) (fun c101 => ?_) (fun c101 => ?_)
                · skip
                  obtain ⟨x102, h103⟩ : ∃ y : Int32, y = v6_36 + Int32.ofInt (1) := ⟨_, rfl⟩
                  try have h104 : x102.toInt = v6_36.toInt + (1) := ty_inc h103 (by decide) (by omega) (by omega)
                  refine lv_iinc (v := x102) (lv' := [(6, .int x102), (5, .ref b13), (4, .ref b9), (0, .ref h0), (1, .int p1), (2, .int p2), (3, .int p3)]) hx hb dX8_dies_84 hl (k := 0) rfl h103.symm (by decide) rfl (fun ls hl => ?_)
                  refine lv_goto (tgt := 36) hx hb dX8_dies_87 (by decide) ?_
                  exact ih_36 x102 _ _ ls (by omega) (by omega) hG hS (lv_sub hl [0, 1, 2, 3, 4, 5, 6] rfl)
                · skip
                  refine lv_aload_n hx hb dX8_dies_73 rfl (lv_at hl 3 rfl) ?_
                  refine get_X8_4 hx hb hA hown hE hG t_h0 wd_1_161 dX8_dies_74 (fun b105 (t_b105 : ty Γ b105 12) => ?_)
                  refine lv_iload hx hb dX8_dies_77 (lv_at hl 0 rfl) ?_
                  refine ald_12 hx hb hE hG t_b105 (by omega) dX8_dies_79 (fun j107 r106 h108 t_r106 h109 => ?_)
                  refine ty_iconst hx hb (4) dX8_dies_80 (by decide) (fun x110 h111 => ?_)
                  obtain ⟨b112, rfl⟩ := Option.ne_none_iff_exists'.mp (h109 (by omega))
                  have t_b112 : ty Γ b112 4 := t_r106 b112 rfl
                  have hl : lv_has ls 8 [(6, .int v6_36), (5, .ref b13), (4, .ref b9), (0, .ref h0), (1, .int p1), (2, .int p2), (3, .int p3)] := hl
                  refine put_X2_6 hx hb hA hown hE hG hS t_b112 wd_3_34 dX8_dies_81 (fun H locs hG hS => ?_)
                  obtain ⟨x113, h114⟩ : ∃ y : Int32, y = v6_36 + Int32.ofInt (1) := ⟨_, rfl⟩
                  try have h115 : x113.toInt = v6_36.toInt + (1) := ty_inc h114 (by decide) (by omega) (by omega)
                  refine lv_iinc (v := x113) (lv' := [(6, .int x113), (5, .ref b13), (4, .ref b9), (0, .ref h0), (1, .int p1), (2, .int p2), (3, .int p3)]) hx hb dX8_dies_84 hl (k := 0) rfl h114.symm (by decide) rfl (fun ls hl => ?_)
                  refine lv_goto (tgt := 36) hx hb dX8_dies_87 (by decide) ?_
                  exact ih_36 x113 _ _ ls (by omega) (by omega) hG hS (lv_sub hl [0, 1, 2, 3, 4, 5, 6] rfl)
        exact L_36 ((g 3 0 - x18.toInt) + 1).toNat x18 _ _ ls (by omega) (by omega) hG hS (lv_sub hl [0, 1, 2, 3, 4, 5, 6] rfl)
      · skip
        refine ty_iconst hx hb (-1) dX8_dies_31 (by decide) (fun x116 h117 => ?_)
        exact W.iret (v := x116) hx hb hr (fun t ht hW => ⟨⟨x116, g, rfl, rfl, ok1 ht hG⟩, hS.F ht⟩) hS.2.2 dX8_dies_32

set_option maxHeartbeats 4000000 in
set_option maxRecDepth 100000 in
/-- WeekBank$FeeRounds.clear:  -/
theorem k_X0_clear (l : Launch) (dC : Nat → ClassId) (dI : Nat → Nat → Nat) (dA : Nat → ClassId) (sz : Nat) (X : va_W) (Γ : ty_G) (hU : Un Γ) (g : gh) (h0 : Nat) (t_h0 : ty Γ h0 9) : Met l yX0_clear (.code yX0_clear cX0_clear 1 (Option.none : Option Jvm.ClassFile.FieldType) :: AL) ({ frames := 0, cells := 0, slots := 0, locals := 0 }) (PCx dC dI dA sz X Γ g [.ref h0]) (va_Qv (fun (u : gh) => (∀ c j : Nat, c ≠ 30 → c ≠ 31 → c ≠ 32 → u c j = g c j) ∧ ((u 30 0 = 0) ∧ (u 31 0 = 0) ∧ (u 32 0 = 0))) (okb dC dI dA sz X Γ) (ty_A sz)) 0 0 (ty_A sz) := by
  refine Met.ofW (cc := cX0_clear) (maxL := 1) (ret := (Option.none : Option Jvm.ClassFile.FieldType)) (by decide) rfl ?_
  intro p e s m args below meth c s₁ B hml hv
  obtain ⟨rfl, hG, hE⟩ := hv
  have hx := B.exec
  have hb := B.bytes
  have hr := B.returns
  have hts := atoms_spec B.pre
  have hA : ∀ w ∈ AL, w.before _ s = true := fun w h => hts w (List.mem_cons_of_mem _ h)
  have hown : s.vm.findClass RX0 = some m.cls := findClass_of_methodNamed B.named
  have hlocks := B.notSynchronized
  have hS : va_S (ty_A sz) s.heap s.heap [] := va_S.rf
  have hl := lv_entry ([.ref h0]) (n := 1) (Nat.le_of_ble_eq_true rfl)
  rw [lg_entry_eq]
  generalize (lg_sl ([.ref h0]) ++ List.replicate (1 - (lg_sl ([.ref h0])).length) Slot.unset).toArray = ls at hl ⊢
  have hl : lv_has ls 1 [(0, .ref h0)] := hl
  refine lv_aload_n hx hb dX0_clear_0 rfl (lv_at hl 0 rfl) ?_
  refine ty_iconst hx hb (0) dX0_clear_1 (by decide) (fun x1 h2 => ?_)
  refine put_X0_3 hx hb hA hown hE hG hS hU t_h0 wd_1_138 dX0_clear_2 (fun H locs hG hS => ?_)
  refine lv_aload_n hx hb dX0_clear_5 rfl (lv_at hl 0 rfl) ?_
  refine ty_iconst hx hb (0) dX0_clear_6 (by decide) (fun x3 h4 => ?_)
  refine put_X0_4 hx hb hA hown hE hG hS hU t_h0 wd_1_139 dX0_clear_7 (fun H locs hG hS => ?_)
  refine lv_aload_n hx hb dX0_clear_10 rfl (lv_at hl 0 rfl) ?_
  refine ty_iconst hx hb (0) dX0_clear_11 (by decide) (fun x5 h6 => ?_)
  refine put_X0_5 hx hb hA hown hE hG hS hU t_h0 wd_1_141 dX0_clear_12 (fun H locs hG hS => ?_)
  generalize eg8 : (gs (gs (gs g 30 0 x1.toInt) 31 0 x3.toInt) 32 0 x5.toInt) = g7 at hG
  have hf9 : ∀ c j : Nat, c ≠ 30 → c ≠ 31 → c ≠ 32 → g7 c j = g c j := fun c j h30 h31 h32 => by rw [← eg8, gs_c _ _ _ _ h32, gs_c _ _ _ _ h31, gs_c _ _ _ _ h30]
  have v10 : g7 30 0 = x1.toInt := by rw [← eg8, gs_c _ _ _ _ (by decide), gs_c _ _ _ _ (by decide), gs_self]
  have v11 : g7 31 0 = x3.toInt := by rw [← eg8, gs_c _ _ _ _ (by decide), gs_self]
  have v12 : g7 32 0 = x5.toInt := by rw [← eg8, gs_self]
  exact W.vret hx hb hr (fun t ht hW => ⟨⟨g7, rfl, ⟨(fun c j h30 h31 h32 => by rw [hf9 c j h30 h31 h32]), (by omega)⟩, ok1 ht hG⟩, hS.F ht⟩) hS.2.2 dX0_clear_15

set_option maxHeartbeats 4000000 in
set_option maxRecDepth 100000 in
/-- WeekBank$FeeRounds.add:  -/
theorem k_X0_add (l : Launch) (dC : Nat → ClassId) (dI : Nat → Nat → Nat) (dA : Nat → ClassId) (sz : Nat) (X : va_W) (Γ : ty_G) (hU : Un Γ) (g : gh) (h0 : Nat) (t_h0 : ty Γ h0 9) (p1 : Int32) (p2 : Int32) (g9 : 0 ≤ g 30 0 ∧ g 30 0 ≤ 10) : Met l yX0_add (.code yX0_add cX0_add 3 (Option.none : Option Jvm.ClassFile.FieldType) :: AL) ({ frames := 0, cells := 0, slots := 0, locals := 0 }) (PCx dC dI dA sz X Γ g [.ref h0, .int p1, .int p2]) (va_Qv (fun (u : gh) => (∀ c j : Nat, c ≠ 30 → u c j = g c j) ∧ ((0 ≤ u 30 0 ∧ u 30 0 ≤ 10))) (okb dC dI dA sz X Γ) (ty_A sz)) 0 0 (ty_A sz) := by
  refine Met.ofW (cc := cX0_add) (maxL := 3) (ret := (Option.none : Option Jvm.ClassFile.FieldType)) (by decide) rfl ?_
  intro p e s m args below meth c s₁ B hml hv
  obtain ⟨rfl, hG, hE⟩ := hv
  have hx := B.exec
  have hb := B.bytes
  have hr := B.returns
  have hts := atoms_spec B.pre
  have hA : ∀ w ∈ AL, w.before _ s = true := fun w h => hts w (List.mem_cons_of_mem _ h)
  have hown : s.vm.findClass RX0 = some m.cls := findClass_of_methodNamed B.named
  have hlocks := B.notSynchronized
  have hS : va_S (ty_A sz) s.heap s.heap [] := va_S.rf
  have hl := lv_entry ([.ref h0, .int p1, .int p2]) (n := 3) (Nat.le_of_ble_eq_true rfl)
  rw [lg_entry_eq]
  generalize (lg_sl ([.ref h0, .int p1, .int p2]) ++ List.replicate (3 - (lg_sl ([.ref h0, .int p1, .int p2])).length) Slot.unset).toArray = ls at hl ⊢
  have hl : lv_has ls 3 [(0, .ref h0), (1, .int p1), (2, .int p2)] := hl
  refine lv_aload_n hx hb dX0_add_0 rfl (lv_at hl 0 rfl) ?_
  refine get_X0_3 hx hb hA hown hE hG t_h0 wd_1_138 dX0_add_1 (fun x1 h2 => ?_)
  refine ty_bipush hx hb (10) dX0_add_4 (by decide) (fun x4 h5 => ?_)
  refine ty_icmp_ge (tgt := 49) hx hb dX0_add_6 (by decide) (fun c6 => ?_) (fun c6 => ?_)
  · skip
    exact W.vret hx hb hr (fun t ht hW => ⟨⟨g, rfl, ⟨(fun c j h30 => by rfl), (by omega)⟩, ok1 ht hG⟩, hS.F ht⟩) hS.2.2 dX0_add_49
  · skip
    refine lv_aload_n hx hb dX0_add_9 rfl (lv_at hl 0 rfl) ?_
    refine get_X0_0 hx hb hA hown hE hG t_h0 wd_1_135 dX0_add_10 (fun b7 (t_b7 : ty Γ b7 23) => ?_)
    refine lv_aload_n hx hb dX0_add_13 rfl (lv_at hl 0 rfl) ?_
    refine get_X0_3 hx hb hA hown hE hG t_h0 wd_1_138 dX0_add_14 (fun x8 h9 => ?_)
    refine lv_iload_n hx hb dX0_add_17 rfl (lv_at hl 1 rfl) ?_
    refine ast_23 hx hb hE hG hS t_b7 (by omega) dX0_add_18 (fun H locs hG hS => ?_)
    refine lv_aload_n hx hb dX0_add_19 rfl (lv_at hl 0 rfl) ?_
    refine get_X0_1 hx hb hA hown hE hG t_h0 wd_1_136 dX0_add_20 (fun b11 (t_b11 : ty Γ b11 23) => ?_)
    refine lv_aload_n hx hb dX0_add_23 rfl (lv_at hl 0 rfl) ?_
    refine get_X0_3 hx hb hA hown hE hG t_h0 wd_1_138 dX0_add_24 (fun x12 h13 => ?_)
    refine lv_iload_n hx hb dX0_add_27 rfl (lv_at hl 2 rfl) ?_
    refine ast_23 hx hb hE hG hS t_b11 (by omega) dX0_add_28 (fun H locs hG hS => ?_)
    refine lv_aload_n hx hb dX0_add_29 rfl (lv_at hl 0 rfl) ?_
    refine get_X0_2 hx hb hA hown hE hG t_h0 wd_1_137 dX0_add_30 (fun b15 (t_b15 : ty Γ b15 24) => ?_)
    refine lv_aload_n hx hb dX0_add_33 rfl (lv_at hl 0 rfl) ?_
    refine get_X0_3 hx hb hA hown hE hG t_h0 wd_1_138 dX0_add_34 (fun x16 h17 => ?_)
    refine ty_iconst hx hb (0) dX0_add_37 (by decide) (fun x19 h20 => ?_)
    refine ast_24 hx hb hE hG hS t_b15 (by omega) (by omega) dX0_add_38 (fun H locs hG hS => ?_)
    refine lv_aload_n hx hb dX0_add_39 rfl (lv_at hl 0 rfl) ?_
    refine lv_dup hx hb dX0_add_40 rfl ?_
    refine get_X0_3 hx hb hA hown hE hG t_h0 wd_1_138 dX0_add_41 (fun x21 h22 => ?_)
    refine ty_iconst hx hb (1) dX0_add_44 (by decide) (fun x24 h25 => ?_)
    refine ty_iadd hx hb dX0_add_45 (fun x26 h27 => ?_)
    try have h28 : x26.toInt = x21.toInt + x24.toInt := ty_add h27 (by omega) (by omega)
    refine put_X0_3 hx hb hA hown hE hG hS hU t_h0 wd_1_138 dX0_add_46 (fun H locs hG hS => ?_)
    have e29 : (gs g 30 0 x26.toInt) 30 0 = x26.toInt := by simp [gs]
    exact W.vret hx hb hr (fun t ht hW => ⟨⟨(gs g 30 0 x26.toInt), rfl, ⟨(fun c j h30 => by rw [gs_c _ _ _ _ h30]), (by omega)⟩, ok1 ht hG⟩, hS.F ht⟩) hS.2.2 dX0_add_49

set_option maxHeartbeats 4000000 in
set_option maxRecDepth 100000 in
/-- WeekBank$FeeRounds.countOwned:  -/
theorem k_X0_countOwned (l : Launch) (dC : Nat → ClassId) (dI : Nat → Nat → Nat) (dA : Nat → ClassId) (sz : Nat) (X : va_W) (Γ : ty_G) (hU : Un Γ) (g : gh) (h0 : Nat) (t_h0 : ty Γ h0 9) (g9 : 0 ≤ g 30 0 ∧ g 30 0 ≤ 10) : Met l yX0_countOwned (.code yX0_countOwned cX0_countOwned 3 (Option.some Jvm.ClassFile.FieldType.int) :: AL) ({ frames := 0, cells := 0, slots := 0, locals := 0 }) (PCx dC dI dA sz X Γ g [.ref h0]) (va_Qi (fun (r : Int32) (u : gh) => u = g) (okb dC dI dA sz X Γ) (ty_A sz)) 0 0 (ty_A sz) := by
  refine Met.ofW (cc := cX0_countOwned) (maxL := 3) (ret := (Option.some Jvm.ClassFile.FieldType.int)) (by decide) rfl ?_
  intro p e s m args below meth c s₁ B hml hv
  obtain ⟨rfl, hG, hE⟩ := hv
  have hx := B.exec
  have hb := B.bytes
  have hr := B.returns
  have hts := atoms_spec B.pre
  have hA : ∀ w ∈ AL, w.before _ s = true := fun w h => hts w (List.mem_cons_of_mem _ h)
  have hown : s.vm.findClass RX0 = some m.cls := findClass_of_methodNamed B.named
  have hlocks := B.notSynchronized
  have hS : va_S (ty_A sz) s.heap s.heap [] := va_S.rf
  have hl := lv_entry ([.ref h0]) (n := 3) (Nat.le_of_ble_eq_true rfl)
  rw [lg_entry_eq]
  generalize (lg_sl ([.ref h0]) ++ List.replicate (3 - (lg_sl ([.ref h0])).length) Slot.unset).toArray = ls at hl ⊢
  have hl : lv_has ls 3 [(0, .ref h0)] := hl
  refine ty_iconst hx hb (0) dX0_countOwned_0 (by decide) (fun x1 h2 => ?_)
  refine lv_istore_n (lv' := [(1, .int x1), (0, .ref h0)]) hx hb dX0_countOwned_1 rfl hl (by decide) rfl (fun ls hl => ?_)
  refine ty_iconst hx hb (0) dX0_countOwned_2 (by decide) (fun x3 h4 => ?_)
  refine lv_istore_n (lv' := [(2, .int x3), (1, .int x1), (0, .ref h0)]) hx hb dX0_countOwned_3 rfl hl (by decide) rfl (fun ls hl => ?_)
  have L_4 : ∀ (n : Nat) (v2_4 : Int32) (v1_4 : Int32) (H : Heap) (locs : List Loc) (ls : Array Slot), (g 30 0 - v2_4.toInt : Int) < n → 0 ≤ v2_4.toInt ∧ v2_4.toInt ≤ g 30 0 → ty_ok (dC, dI) vwCl Γ (TP dA Γ g) sz X H → va_S (ty_A sz) s.heap H locs → lv_has ls 3 [(2, .int v2_4), (1, .int v1_4), (0, .ref h0)] → W p l e (headSpec (.code yX0_countOwned cX0_countOwned 3 (Option.some Jvm.ClassFile.FieldType.int) :: AL) ({ frames := 0, cells := 0, slots := 0, locals := 0 })).room s m ([.ref h0] : List Value).toArray below meth c H locs 0 0 (MQ below (va_Qi (fun (r : Int32) (u : gh) => u = g) (okb dC dI dA sz X Γ) (ty_A sz)) ([.ref h0] : List Value).toArray s 0 0 (ty_A sz)) (F0 m 4 ls []) := by
    intro n
    induction n with
    | zero => intro v2_4 v1_4 H locs ls hm hi0 hG hS hl; exfalso; omega
    | succ n ih_4 =>
      intro v2_4 v1_4 H locs ls hm hi0 hG hS hl
      refine lv_iload_n hx hb dX0_countOwned_4 rfl (lv_at hl 0 rfl) ?_
      refine lv_aload_n hx hb dX0_countOwned_5 rfl (lv_at hl 2 rfl) ?_
      refine get_X0_3 hx hb hA hown hE hG t_h0 wd_1_138 dX0_countOwned_6 (fun x6 h7 => ?_)
      refine ty_icmp_ge (tgt := 36) hx hb dX0_countOwned_9 (by decide) (fun c9 => ?_) (fun c9 => ?_)
      · skip
        refine lv_iload_n hx hb dX0_countOwned_36 rfl (lv_at hl 1 rfl) ?_
        exact W.iret (v := v1_4) hx hb hr (fun t ht hW => ⟨⟨v1_4, g, rfl, rfl, ok1 ht hG⟩, hS.F ht⟩) hS.2.2 dX0_countOwned_37
      · skip
        refine lv_aload_n hx hb dX0_countOwned_12 rfl (lv_at hl 2 rfl) ?_
        refine get_X0_2 hx hb hA hown hE hG t_h0 wd_1_137 dX0_countOwned_13 (fun b10 (t_b10 : ty Γ b10 24) => ?_)
        refine lv_iload_n hx hb dX0_countOwned_16 rfl (lv_at hl 0 rfl) ?_
        refine ald_24 hx hb hE hG t_b10 (by omega) dX0_countOwned_17 (fun j12 x11 h13 h14 => ?_)
        refine ty_if_ne (tgt := 30) hx hb dX0_countOwned_18 (by decide) (fun c15 => ?_) (fun c15 => ?_)
        · skip
          obtain ⟨x16, h17⟩ : ∃ y : Int32, y = v2_4 + Int32.ofInt (1) := ⟨_, rfl⟩
          try have h18 : x16.toInt = v2_4.toInt + (1) := ty_inc h17 (by decide) (by omega) (by omega)
          refine lv_iinc (v := x16) (lv' := [(2, .int x16), (1, .int v1_4), (0, .ref h0)]) hx hb dX0_countOwned_30 hl (k := 0) rfl h17.symm (by decide) rfl (fun ls hl => ?_)
          refine lv_goto (tgt := 4) hx hb dX0_countOwned_33 (by decide) ?_
          exact ih_4 x16 v1_4 _ _ ls (by omega) (by omega) hG hS (lv_sub hl [0, 1, 2] rfl)
        · skip
          refine lv_iload_n hx hb dX0_countOwned_21 rfl (lv_at hl 1 rfl) ?_
          refine lv_aload_n hx hb dX0_countOwned_22 rfl (lv_at hl 2 rfl) ?_
          refine get_X0_1 hx hb hA hown hE hG t_h0 wd_1_136 dX0_countOwned_23 (fun b19 (t_b19 : ty Γ b19 23) => ?_)
          refine lv_iload_n hx hb dX0_countOwned_26 rfl (lv_at hl 0 rfl) ?_
          refine ald_23 hx hb hE hG t_b19 (by omega) dX0_countOwned_27 (fun j21 x20 h22 => ?_)
          refine ty_iadd hx hb dX0_countOwned_28 (fun x24 h25 => ?_)
          try have h26 : x24.toInt = v1_4.toInt + x20.toInt := ty_add h25 (by omega) (by omega)
          refine lv_istore_n (lv' := [(1, .int x24), (2, .int v2_4), (0, .ref h0)]) hx hb dX0_countOwned_29 rfl hl (by decide) rfl (fun ls hl => ?_)
          obtain ⟨x27, h28⟩ : ∃ y : Int32, y = v2_4 + Int32.ofInt (1) := ⟨_, rfl⟩
          try have h29 : x27.toInt = v2_4.toInt + (1) := ty_inc h28 (by decide) (by omega) (by omega)
          refine lv_iinc (v := x27) (lv' := [(2, .int x27), (1, .int x24), (0, .ref h0)]) hx hb dX0_countOwned_30 hl (k := 1) rfl h28.symm (by decide) rfl (fun ls hl => ?_)
          refine lv_goto (tgt := 4) hx hb dX0_countOwned_33 (by decide) ?_
          exact ih_4 x27 x24 _ _ ls (by omega) (by omega) hG hS (lv_sub hl [0, 1, 2] rfl)
  exact L_4 ((g 30 0 - x3.toInt) + 1).toNat x3 x1 _ _ ls (by omega) (by omega) hG hS (lv_sub hl [0, 1, 2] rfl)

set_option maxHeartbeats 4000000 in
set_option maxRecDepth 100000 in
/-- WeekBank$FeeRounds.countStaying:  -/
theorem k_X0_countStaying (l : Launch) (dC : Nat → ClassId) (dI : Nat → Nat → Nat) (dA : Nat → ClassId) (sz : Nat) (X : va_W) (Γ : ty_G) (hU : Un Γ) (g : gh) (h0 : Nat) (t_h0 : ty Γ h0 9) (g9 : 0 ≤ g 30 0 ∧ g 30 0 ≤ 10) : Met l yX0_countStaying (.code yX0_countStaying cX0_countStaying 3 (Option.some Jvm.ClassFile.FieldType.int) :: AL) ({ frames := 0, cells := 0, slots := 0, locals := 0 }) (PCx dC dI dA sz X Γ g [.ref h0]) (va_Qi (fun (r : Int32) (u : gh) => u = g) (okb dC dI dA sz X Γ) (ty_A sz)) 0 0 (ty_A sz) := by
  refine Met.ofW (cc := cX0_countStaying) (maxL := 3) (ret := (Option.some Jvm.ClassFile.FieldType.int)) (by decide) rfl ?_
  intro p e s m args below meth c s₁ B hml hv
  obtain ⟨rfl, hG, hE⟩ := hv
  have hx := B.exec
  have hb := B.bytes
  have hr := B.returns
  have hts := atoms_spec B.pre
  have hA : ∀ w ∈ AL, w.before _ s = true := fun w h => hts w (List.mem_cons_of_mem _ h)
  have hown : s.vm.findClass RX0 = some m.cls := findClass_of_methodNamed B.named
  have hlocks := B.notSynchronized
  have hS : va_S (ty_A sz) s.heap s.heap [] := va_S.rf
  have hl := lv_entry ([.ref h0]) (n := 3) (Nat.le_of_ble_eq_true rfl)
  rw [lg_entry_eq]
  generalize (lg_sl ([.ref h0]) ++ List.replicate (3 - (lg_sl ([.ref h0])).length) Slot.unset).toArray = ls at hl ⊢
  have hl : lv_has ls 3 [(0, .ref h0)] := hl
  refine ty_iconst hx hb (0) dX0_countStaying_0 (by decide) (fun x1 h2 => ?_)
  refine lv_istore_n (lv' := [(1, .int x1), (0, .ref h0)]) hx hb dX0_countStaying_1 rfl hl (by decide) rfl (fun ls hl => ?_)
  refine ty_iconst hx hb (0) dX0_countStaying_2 (by decide) (fun x3 h4 => ?_)
  refine lv_istore_n (lv' := [(2, .int x3), (1, .int x1), (0, .ref h0)]) hx hb dX0_countStaying_3 rfl hl (by decide) rfl (fun ls hl => ?_)
  have L_4 : ∀ (n : Nat) (v2_4 : Int32) (v1_4 : Int32) (H : Heap) (locs : List Loc) (ls : Array Slot), (g 30 0 - v2_4.toInt : Int) < n → 0 ≤ v2_4.toInt ∧ v2_4.toInt ≤ g 30 0 → ty_ok (dC, dI) vwCl Γ (TP dA Γ g) sz X H → va_S (ty_A sz) s.heap H locs → lv_has ls 3 [(2, .int v2_4), (1, .int v1_4), (0, .ref h0)] → W p l e (headSpec (.code yX0_countStaying cX0_countStaying 3 (Option.some Jvm.ClassFile.FieldType.int) :: AL) ({ frames := 0, cells := 0, slots := 0, locals := 0 })).room s m ([.ref h0] : List Value).toArray below meth c H locs 0 0 (MQ below (va_Qi (fun (r : Int32) (u : gh) => u = g) (okb dC dI dA sz X Γ) (ty_A sz)) ([.ref h0] : List Value).toArray s 0 0 (ty_A sz)) (F0 m 4 ls []) := by
    intro n
    induction n with
    | zero => intro v2_4 v1_4 H locs ls hm hi0 hG hS hl; exfalso; omega
    | succ n ih_4 =>
      intro v2_4 v1_4 H locs ls hm hi0 hG hS hl
      refine lv_iload_n hx hb dX0_countStaying_4 rfl (lv_at hl 0 rfl) ?_
      refine lv_aload_n hx hb dX0_countStaying_5 rfl (lv_at hl 2 rfl) ?_
      refine get_X0_3 hx hb hA hown hE hG t_h0 wd_1_138 dX0_countStaying_6 (fun x6 h7 => ?_)
      refine ty_icmp_ge (tgt := 39) hx hb dX0_countStaying_9 (by decide) (fun c9 => ?_) (fun c9 => ?_)
      · skip
        refine lv_iload_n hx hb dX0_countStaying_39 rfl (lv_at hl 1 rfl) ?_
        exact W.iret (v := v1_4) hx hb hr (fun t ht hW => ⟨⟨v1_4, g, rfl, rfl, ok1 ht hG⟩, hS.F ht⟩) hS.2.2 dX0_countStaying_40
      · skip
        refine lv_aload_n hx hb dX0_countStaying_12 rfl (lv_at hl 2 rfl) ?_
        refine get_X0_2 hx hb hA hown hE hG t_h0 wd_1_137 dX0_countStaying_13 (fun b10 (t_b10 : ty Γ b10 24) => ?_)
        refine lv_iload_n hx hb dX0_countStaying_16 rfl (lv_at hl 0 rfl) ?_
        refine ald_24 hx hb hE hG t_b10 (by omega) dX0_countStaying_17 (fun j12 x11 h13 h14 => ?_)
        refine ty_if_ne (tgt := 33) hx hb dX0_countStaying_18 (by decide) (fun c15 => ?_) (fun c15 => ?_)
        · skip
          obtain ⟨x16, h17⟩ : ∃ y : Int32, y = v2_4 + Int32.ofInt (1) := ⟨_, rfl⟩
          try have h18 : x16.toInt = v2_4.toInt + (1) := ty_inc h17 (by decide) (by omega) (by omega)
          refine lv_iinc (v := x16) (lv' := [(2, .int x16), (1, .int v1_4), (0, .ref h0)]) hx hb dX0_countStaying_33 hl (k := 0) rfl h17.symm (by decide) rfl (fun ls hl => ?_)
          refine lv_goto (tgt := 4) hx hb dX0_countStaying_36 (by decide) ?_
          exact ih_4 x16 v1_4 _ _ ls (by omega) (by omega) hG hS (lv_sub hl [0, 1, 2] rfl)
        · skip
          refine lv_aload_n hx hb dX0_countStaying_21 rfl (lv_at hl 2 rfl) ?_
          refine get_X0_1 hx hb hA hown hE hG t_h0 wd_1_136 dX0_countStaying_22 (fun b19 (t_b19 : ty Γ b19 23) => ?_)
          refine lv_iload_n hx hb dX0_countStaying_25 rfl (lv_at hl 0 rfl) ?_
          refine ald_23 hx hb hE hG t_b19 (by omega) dX0_countStaying_26 (fun j21 x20 h22 => ?_)
          refine ty_if_le (tgt := 33) hx hb dX0_countStaying_27 (by decide) (fun c24 => ?_) (fun c24 => ?_)
          · skip
            obtain ⟨x25, h26⟩ : ∃ y : Int32, y = v2_4 + Int32.ofInt (1) := ⟨_, rfl⟩
            try have h27 : x25.toInt = v2_4.toInt + (1) := ty_inc h26 (by decide) (by omega) (by omega)
            refine lv_iinc (v := x25) (lv' := [(2, .int x25), (1, .int v1_4), (0, .ref h0)]) hx hb dX0_countStaying_33 hl (k := 0) rfl h26.symm (by decide) rfl (fun ls hl => ?_)
            refine lv_goto (tgt := 4) hx hb dX0_countStaying_36 (by decide) ?_
            exact ih_4 x25 v1_4 _ _ ls (by omega) (by omega) hG hS (lv_sub hl [0, 1, 2] rfl)
          · skip
            obtain ⟨x28, h29⟩ : ∃ y : Int32, y = v1_4 + Int32.ofInt (1) := ⟨_, rfl⟩
            try have h30 : x28.toInt = v1_4.toInt + (1) := ty_inc h29 (by decide) (by omega) (by omega)
            refine lv_iinc (v := x28) (lv' := [(1, .int x28), (2, .int v2_4), (0, .ref h0)]) hx hb dX0_countStaying_30 hl (k := 1) rfl h29.symm (by decide) rfl (fun ls hl => ?_)
            obtain ⟨x31, h32⟩ : ∃ y : Int32, y = v2_4 + Int32.ofInt (1) := ⟨_, rfl⟩
            try have h33 : x31.toInt = v2_4.toInt + (1) := ty_inc h32 (by decide) (by omega) (by omega)
            refine lv_iinc (v := x31) (lv' := [(2, .int x31), (1, .int x28), (0, .ref h0)]) hx hb dX0_countStaying_33 hl (k := 1) rfl h32.symm (by decide) rfl (fun ls hl => ?_)
            refine lv_goto (tgt := 4) hx hb dX0_countStaying_36 (by decide) ?_
            exact ih_4 x31 x28 _ _ ls (by omega) (by omega) hG hS (lv_sub hl [0, 1, 2] rfl)
  exact L_4 ((g 30 0 - x3.toInt) + 1).toNat x3 x1 _ _ ls (by omega) (by omega) hG hS (lv_sub hl [0, 1, 2] rfl)

set_option maxHeartbeats 4000000 in
set_option maxRecDepth 100000 in
/-- WeekBank$FeeRounds.someLeave:  -/
theorem k_X0_someLeave (l : Launch) (dC : Nat → ClassId) (dI : Nat → Nat → Nat) (dA : Nat → ClassId) (sz : Nat) (X : va_W) (Γ : ty_G) (hU : Un Γ) (g : gh) (h0 : Nat) (t_h0 : ty Γ h0 9) (g9 : 0 ≤ g 30 0 ∧ g 30 0 ≤ 10) : Met l yX0_someLeave (.code yX0_someLeave cX0_someLeave 3 (Option.some Jvm.ClassFile.FieldType.boolean) :: AL) ({ frames := 0, cells := 0, slots := 0, locals := 0 }) (PCx dC dI dA sz X Γ g [.ref h0]) (va_Qi (fun (r : Int32) (u : gh) => u = g) (okb dC dI dA sz X Γ) (ty_A sz)) 0 0 (ty_A sz) := by
  refine Met.ofW (cc := cX0_someLeave) (maxL := 3) (ret := (Option.some Jvm.ClassFile.FieldType.boolean)) (by decide) rfl ?_
  intro p e s m args below meth c s₁ B hml hv
  obtain ⟨rfl, hG, hE⟩ := hv
  have hx := B.exec
  have hb := B.bytes
  have hr := B.returns
  have hts := atoms_spec B.pre
  have hA : ∀ w ∈ AL, w.before _ s = true := fun w h => hts w (List.mem_cons_of_mem _ h)
  have hown : s.vm.findClass RX0 = some m.cls := findClass_of_methodNamed B.named
  have hlocks := B.notSynchronized
  have hS : va_S (ty_A sz) s.heap s.heap [] := va_S.rf
  have hl := lv_entry ([.ref h0]) (n := 3) (Nat.le_of_ble_eq_true rfl)
  rw [lg_entry_eq]
  generalize (lg_sl ([.ref h0]) ++ List.replicate (3 - (lg_sl ([.ref h0])).length) Slot.unset).toArray = ls at hl ⊢
  have hl : lv_has ls 3 [(0, .ref h0)] := hl
  refine ty_iconst hx hb (0) dX0_someLeave_0 (by decide) (fun x1 h2 => ?_)
  refine lv_istore_n (lv' := [(1, .int x1), (0, .ref h0)]) hx hb dX0_someLeave_1 rfl hl (by decide) rfl (fun ls hl => ?_)
  refine ty_iconst hx hb (0) dX0_someLeave_2 (by decide) (fun x3 h4 => ?_)
  refine lv_istore_n (lv' := [(2, .int x3), (1, .int x1), (0, .ref h0)]) hx hb dX0_someLeave_3 rfl hl (by decide) rfl (fun ls hl => ?_)
  have L_4 : ∀ (n : Nat) (v2_4 : Int32) (v1_4 : Int32) (H : Heap) (locs : List Loc) (ls : Array Slot), (g 30 0 - v2_4.toInt : Int) < n → 0 ≤ v2_4.toInt ∧ v2_4.toInt ≤ g 30 0 → v1_4.toInt = 0 ∨ v1_4.toInt = 1 → ty_ok (dC, dI) vwCl Γ (TP dA Γ g) sz X H → va_S (ty_A sz) s.heap H locs → lv_has ls 3 [(2, .int v2_4), (1, .int v1_4), (0, .ref h0)] → W p l e (headSpec (.code yX0_someLeave cX0_someLeave 3 (Option.some Jvm.ClassFile.FieldType.boolean) :: AL) ({ frames := 0, cells := 0, slots := 0, locals := 0 })).room s m ([.ref h0] : List Value).toArray below meth c H locs 0 0 (MQ below (va_Qi (fun (r : Int32) (u : gh) => u = g) (okb dC dI dA sz X Γ) (ty_A sz)) ([.ref h0] : List Value).toArray s 0 0 (ty_A sz)) (F0 m 4 ls []) := by
    intro n
    induction n with
    | zero => intro v2_4 v1_4 H locs ls hm hi0 hi1 hG hS hl; exfalso; omega
    | succ n ih_4 =>
      intro v2_4 v1_4 H locs ls hm hi0 hi1 hG hS hl
      refine lv_iload_n hx hb dX0_someLeave_4 rfl (lv_at hl 0 rfl) ?_
      refine lv_aload_n hx hb dX0_someLeave_5 rfl (lv_at hl 2 rfl) ?_
      refine get_X0_3 hx hb hA hown hE hG t_h0 wd_1_138 dX0_someLeave_6 (fun x6 h7 => ?_)
      refine ty_icmp_ge (tgt := 49) hx hb dX0_someLeave_9 (by decide) (fun c9 => ?_) (fun c9 => ?_)
      · skip
        refine lv_iload_n hx hb dX0_someLeave_49 rfl (lv_at hl 1 rfl) ?_
        exact W.zret (v := v1_4) hx hb hr (ty_nb (by omega)).1 (fun t ht hW => ⟨⟨v1_4, g, rfl, rfl, ok1 ht hG⟩, hS.F ht⟩) hS.2.2 dX0_someLeave_50
      · skip
        refine lv_aload_n hx hb dX0_someLeave_12 rfl (lv_at hl 2 rfl) ?_
        refine get_X0_2 hx hb hA hown hE hG t_h0 wd_1_137 dX0_someLeave_13 (fun b10 (t_b10 : ty Γ b10 24) => ?_)
        refine lv_iload_n hx hb dX0_someLeave_16 rfl (lv_at hl 0 rfl) ?_
        refine ald_24 hx hb hE hG t_b10 (by omega) dX0_someLeave_17 (fun j12 x11 h13 h14 => ?_)
        refine ty_if_ne (tgt := 43) hx hb dX0_someLeave_18 (by decide) (fun c15 => ?_) (fun c15 => ?_)
        · skip
          obtain ⟨x16, h17⟩ : ∃ y : Int32, y = v2_4 + Int32.ofInt (1) := ⟨_, rfl⟩
          try have h18 : x16.toInt = v2_4.toInt + (1) := ty_inc h17 (by decide) (by omega) (by omega)
          refine lv_iinc (v := x16) (lv' := [(2, .int x16), (1, .int v1_4), (0, .ref h0)]) hx hb dX0_someLeave_43 hl (k := 0) rfl h17.symm (by decide) rfl (fun ls hl => ?_)
          refine lv_goto (tgt := 4) hx hb dX0_someLeave_46 (by decide) ?_
          exact ih_4 x16 v1_4 _ _ ls (by omega) (by omega) (by omega) hG hS (lv_sub hl [0, 1, 2] rfl)
        · skip
          refine lv_aload_n hx hb dX0_someLeave_21 rfl (lv_at hl 2 rfl) ?_
          refine get_X0_0 hx hb hA hown hE hG t_h0 wd_1_135 dX0_someLeave_22 (fun b19 (t_b19 : ty Γ b19 23) => ?_)
          refine lv_iload_n hx hb dX0_someLeave_25 rfl (lv_at hl 0 rfl) ?_
          refine ald_23 hx hb hE hG t_b19 (by omega) dX0_someLeave_26 (fun j21 x20 h22 => ?_)
          refine lv_aload_n hx hb dX0_someLeave_27 rfl (lv_at hl 2 rfl) ?_
          refine get_X0_4 hx hb hA hown hE hG t_h0 wd_1_139 dX0_someLeave_28 (fun x24 h25 => ?_)
          refine ty_icmp_ge (tgt := 43) hx hb dX0_someLeave_31 (by decide) (fun c27 => ?_) (fun c27 => ?_)
          · skip
            obtain ⟨x28, h29⟩ : ∃ y : Int32, y = v2_4 + Int32.ofInt (1) := ⟨_, rfl⟩
            try have h30 : x28.toInt = v2_4.toInt + (1) := ty_inc h29 (by decide) (by omega) (by omega)
            refine lv_iinc (v := x28) (lv' := [(2, .int x28), (1, .int v1_4), (0, .ref h0)]) hx hb dX0_someLeave_43 hl (k := 0) rfl h29.symm (by decide) rfl (fun ls hl => ?_)
            refine lv_goto (tgt := 4) hx hb dX0_someLeave_46 (by decide) ?_
            exact ih_4 x28 v1_4 _ _ ls (by omega) (by omega) (by omega) hG hS (lv_sub hl [0, 1, 2] rfl)
          · skip
            refine lv_aload_n hx hb dX0_someLeave_34 rfl (lv_at hl 2 rfl) ?_
            refine get_X0_2 hx hb hA hown hE hG t_h0 wd_1_137 dX0_someLeave_35 (fun b31 (t_b31 : ty Γ b31 24) => ?_)
            refine lv_iload_n hx hb dX0_someLeave_38 rfl (lv_at hl 0 rfl) ?_
            refine ty_iconst hx hb (1) dX0_someLeave_39 (by decide) (fun x32 h33 => ?_)
            refine ast_24 hx hb hE hG hS t_b31 (by omega) (by omega) dX0_someLeave_40 (fun H locs hG hS => ?_)
            refine ty_iconst hx hb (1) dX0_someLeave_41 (by decide) (fun x34 h35 => ?_)
            refine lv_istore_n (lv' := [(1, .int x34), (2, .int v2_4), (0, .ref h0)]) hx hb dX0_someLeave_42 rfl hl (by decide) rfl (fun ls hl => ?_)
            obtain ⟨x36, h37⟩ : ∃ y : Int32, y = v2_4 + Int32.ofInt (1) := ⟨_, rfl⟩
            try have h38 : x36.toInt = v2_4.toInt + (1) := ty_inc h37 (by decide) (by omega) (by omega)
            refine lv_iinc (v := x36) (lv' := [(2, .int x36), (1, .int x34), (0, .ref h0)]) hx hb dX0_someLeave_43 hl (k := 1) rfl h37.symm (by decide) rfl (fun ls hl => ?_)
            refine lv_goto (tgt := 4) hx hb dX0_someLeave_46 (by decide) ?_
            exact ih_4 x36 x34 _ _ ls (by omega) (by omega) (by omega) hG hS (lv_sub hl [0, 1, 2] rfl)
  exact L_4 ((g 30 0 - x3.toInt) + 1).toNat x3 x1 _ _ ls (by omega) (by omega) (by omega) hG hS (lv_sub hl [0, 1, 2] rfl)

set_option maxHeartbeats 4000000 in
set_option maxRecDepth 100000 in
/-- WeekBank$FeeRounds.reckon:  -/
theorem k_X0_reckon (l : Launch) (dC : Nat → ClassId) (dI : Nat → Nat → Nat) (dA : Nat → ClassId) (sz : Nat) (X : va_W) (Γ : ty_G) (hU : Un Γ) (g : gh) (h0 : Nat) (t_h0 : ty Γ h0 9) (p1 : Int32) (g9 : 0 ≤ g 30 0 ∧ g 30 0 ≤ 10) : Met l yX0_reckon (.code yX0_reckon cX0_reckon 4 (Option.none : Option Jvm.ClassFile.FieldType) :: AL) ({ frames := 1, cells := 0, slots := 0, locals := 22 }) (PCx dC dI dA sz X Γ g [.ref h0, .int p1]) (va_Qv (fun (u : gh) => (∀ c j : Nat, c ≠ 31 → c ≠ 32 → u c j = g c j)) (okb dC dI dA sz X Γ) (ty_A sz)) 0 0 (ty_A sz) := by
  refine Met.ofW (cc := cX0_reckon) (maxL := 4) (ret := (Option.none : Option Jvm.ClassFile.FieldType)) (by decide) rfl ?_
  intro p e s m args below meth c s₁ B hml hv
  obtain ⟨rfl, hG, hE⟩ := hv
  have hx := B.exec
  have hb := B.bytes
  have hr := B.returns
  have hts := atoms_spec B.pre
  have hA : ∀ w ∈ AL, w.before _ s = true := fun w h => hts w (List.mem_cons_of_mem _ h)
  have hown : s.vm.findClass RX0 = some m.cls := findClass_of_methodNamed B.named
  have hlocks := B.notSynchronized
  have hS : va_S (ty_A sz) s.heap s.heap [] := va_S.rf
  have hl := lv_entry ([.ref h0, .int p1]) (n := 4) (Nat.le_of_ble_eq_true rfl)
  rw [lg_entry_eq]
  generalize (lg_sl ([.ref h0, .int p1]) ++ List.replicate (4 - (lg_sl ([.ref h0, .int p1])).length) Slot.unset).toArray = ls at hl ⊢
  have hl : lv_has ls 4 [(0, .ref h0), (1, .int p1)] := hl
  refine ty_iconst hx hb (0) dX0_reckon_0 (by decide) (fun x1 h2 => ?_)
  refine lv_istore_n (lv' := [(2, .int x1), (0, .ref h0), (1, .int p1)]) hx hb dX0_reckon_1 rfl hl (by decide) rfl (fun ls hl => ?_)
  have L_2 : ∀ (n : Nat) (v2_2 : Int32) (g3 : gh) (H : Heap) (locs : List Loc) (ls : Array Slot), (11 - v2_2.toInt : Int) < n → 0 ≤ v2_2.toInt ∧ v2_2.toInt ≤ 11 → (∀ c j : Nat, c ≠ 31 → c ≠ 32 → g3 c j = g c j) → ty_ok (dC, dI) vwCl Γ (TP dA Γ g3) sz X H → va_S (ty_A sz) s.heap H locs → lv_has ls 4 [(2, .int v2_2), (0, .ref h0), (1, .int p1)] → W p l e (headSpec (.code yX0_reckon cX0_reckon 4 (Option.none : Option Jvm.ClassFile.FieldType) :: AL) ({ frames := 1, cells := 0, slots := 0, locals := 22 })).room s m ([.ref h0, .int p1] : List Value).toArray below meth c H locs 0 0 (MQ below (va_Qv (fun (u : gh) => (∀ c j : Nat, c ≠ 31 → c ≠ 32 → u c j = g c j)) (okb dC dI dA sz X Γ) (ty_A sz)) ([.ref h0, .int p1] : List Value).toArray s 0 0 (ty_A sz)) (F0 m 2 ls []) := by
    intro n
    induction n with
    | zero => intro v2_2 g3 H locs ls hm hi0 hf4 hG hS hl; exfalso; omega
    | succ n ih_2 =>
      intro v2_2 g3 H locs ls hm hi0 hf4 hG hS hl
      refine lv_iload_n hx hb dX0_reckon_2 rfl (lv_at hl 0 rfl) ?_
      refine ty_bipush hx hb (10) dX0_reckon_3 (by decide) (fun x5 h6 => ?_)
      refine ty_icmp_gt (tgt := 58) hx hb dX0_reckon_5 (by decide) (fun c7 => ?_) (fun c7 => ?_)
      · skip
        exact W.vret hx hb hr (fun t ht hW => ⟨⟨g3, rfl, (fun c j h31 h32 => by rw [hf4 c j h31 h32]), ok1 ht hG⟩, hS.F ht⟩) hS.2.2 dX0_reckon_58
      · skip
        refine lv_aload_n hx hb dX0_reckon_8 rfl (lv_at hl 1 rfl) ?_
        have hk8 : g3 30 0 = g 30 0 := hf4 30 0 (by decide) (by decide)
        refine cI (va_runV (C := RX0) (As := []) (rest := []) ⟨hx, hb, hml, hown, hA⟩ (k_X0_countOwned l dC dI dA sz X Γ hU g3 h0 t_h0   (by omega)) ⟨callB_of 0 hA (al_A wd_4_21) rfl rfl rfl (hA _ wd_1_6) (hA _ wd_4_18) (by decide +kernel) ⟨Nat.le_of_ble_eq_true rfl, Nat.le_of_ble_eq_true rfl⟩, hA _ wd_4_20, hA _ ws_32⟩ ⟨bl, recv_X0 hE hG t_h0, fun U hU9 hW9 => ⟨rfl, by rw [hU9]; exact hG, hE.go hS hU9 hW9⟩⟩ rfl rfl hl.1 rfl (lv_room (Nat.le_of_ble_eq_true rfl)) dX0_reckon_9 ⟨Nat.zero_le _, Nat.zero_le _⟩) hS (fun x11 u9 H locs w10 hG hS => ?_)
        have eu12 := w10
        rw [eu12] at hG
        refine lv_istore_n (lv' := [(3, .int x11), (2, .int v2_2), (0, .ref h0), (1, .int p1)]) hx hb dX0_reckon_12 rfl hl (by decide) rfl (fun ls hl => ?_)
        refine lv_iload_n hx hb dX0_reckon_13 rfl (lv_at hl 0 rfl) ?_
        refine ty_if_gt (tgt := 23) hx hb dX0_reckon_14 (by decide) (fun c13 => ?_) (fun c13 => ?_)
        · skip
          refine lv_aload_n hx hb dX0_reckon_23 rfl (lv_at hl 2 rfl) ?_
          refine lv_iload_n hx hb dX0_reckon_24 rfl (lv_at hl 3 rfl) ?_
          refine lv_iload_n hx hb dX0_reckon_25 rfl (lv_at hl 0 rfl) ?_
          refine ty_iadd hx hb dX0_reckon_26 (fun x14 h15 => ?_)
          try have h16 : x14.toInt = p1.toInt + x11.toInt := ty_add h15 (by omega) (by omega)
          refine ty_iconst hx hb (1) dX0_reckon_27 (by decide) (fun x17 h18 => ?_)
          refine ty_isub hx hb dX0_reckon_28 (fun x19 h20 => ?_)
          try have h21 : x19.toInt = x14.toInt - x17.toInt := ty_sub h20 (by omega) (by omega)
          refine lv_iload_n hx hb dX0_reckon_29 rfl (lv_at hl 0 rfl) ?_
          refine lv_idiv hx hb dX0_reckon_30 (fun h0 => by have := ty_c0.mp h0; omega) ?_
          refine lv_topi (fun x22 h23 => ?_)
          refine put_X0_4 hx hb hA hown hE hG hS hU t_h0 wd_1_139 dX0_reckon_31 (fun H locs hG hS => ?_)
          refine lv_aload_n hx hb dX0_reckon_34 rfl (lv_at hl 2 rfl) ?_
          have e24 : (gs g3 31 0 x22.toInt) 30 0 = g3 30 0 := by simp [gs]
          refine cI (va_runV (C := RX0) (As := []) (rest := []) ⟨hx, hb, hml, hown, hA⟩ (k_X0_someLeave l dC dI dA sz X Γ hU (gs g3 31 0 x22.toInt) h0 t_h0   (by omega)) ⟨callB_of 0 hA (al_A wd_4_25) rfl rfl rfl (hA _ wd_1_6) (hA _ wd_4_22) (by decide +kernel) ⟨Nat.le_of_ble_eq_true rfl, Nat.le_of_ble_eq_true rfl⟩, hA _ wd_4_24, hA _ ws_33⟩ ⟨bl, recv_X0 hE hG t_h0, fun U hU9 hW9 => ⟨rfl, by rw [hU9]; exact hG, hE.go hS hU9 hW9⟩⟩ rfl rfl hl.1 rfl (lv_room (Nat.le_of_ble_eq_true rfl)) dX0_reckon_35 ⟨Nat.zero_le _, Nat.zero_le _⟩) hS (fun x27 u25 H locs w26 hG hS => ?_)
          have eu28 := w26
          rw [eu28] at hG
          refine ty_if_ne (tgt := 42) hx hb dX0_reckon_38 (by decide) (fun c29 => ?_) (fun c29 => ?_)
          · skip
            refine lv_aload_n hx hb dX0_reckon_42 rfl (lv_at hl 2 rfl) ?_
            refine lv_dup hx hb dX0_reckon_43 rfl ?_
            refine get_X0_5 hx hb hA hown hE hG t_h0 wd_1_141 dX0_reckon_44 (fun x30 h31 => ?_)
            replace h31 : x30.toInt = g3 32 0 := by rw [h31]; simp [gs]
            refine ty_iconst hx hb (1) dX0_reckon_47 (by decide) (fun x33 h34 => ?_)
            refine ty_iadd hx hb dX0_reckon_48 (fun x35 h36 => ?_)
            try have h37 : x35.toInt = x30.toInt + x33.toInt := ty_add h36 (by omega) (by omega)
            refine put_X0_5 hx hb hA hown hE hG hS hU t_h0 wd_1_141 dX0_reckon_49 (fun H locs hG hS => ?_)
            obtain ⟨x38, h39⟩ : ∃ y : Int32, y = v2_2 + Int32.ofInt (1) := ⟨_, rfl⟩
            try have h40 : x38.toInt = v2_2.toInt + (1) := ty_inc h39 (by decide) (by omega) (by omega)
            refine lv_iinc (v := x38) (lv' := [(2, .int x38), (3, .int x11), (0, .ref h0), (1, .int p1)]) hx hb dX0_reckon_52 hl (k := 1) rfl h39.symm (by decide) rfl (fun ls hl => ?_)
            refine lv_goto (tgt := 2) hx hb dX0_reckon_55 (by decide) ?_
            exact ih_2 x38 (gs (gs g3 31 0 x22.toInt) 32 0 x35.toInt) _ _ ls (by omega) (by omega) (fun c j h31 h32 => by rw [gs_c _ _ _ _ h32, gs_c _ _ _ _ h31, hf4 c j h31 h32]) hG hS (lv_sub hl [0, 2, 3] rfl)
          · skip
            exact W.vret hx hb hr (fun t ht hW => ⟨⟨(gs g3 31 0 x22.toInt), rfl, (fun c j h31 h32 => by rw [gs_c _ _ _ _ h31, hf4 c j h31 h32]), ok1 ht hG⟩, hS.F ht⟩) hS.2.2 dX0_reckon_41
        · skip
          refine lv_aload_n hx hb dX0_reckon_17 rfl (lv_at hl 2 rfl) ?_
          refine ty_iconst hx hb (0) dX0_reckon_18 (by decide) (fun x41 h42 => ?_)
          refine put_X0_4 hx hb hA hown hE hG hS hU t_h0 wd_1_139 dX0_reckon_19 (fun H locs hG hS => ?_)
          exact W.vret hx hb hr (fun t ht hW => ⟨⟨(gs g3 31 0 x41.toInt), rfl, (fun c j h31 h32 => by rw [gs_c _ _ _ _ h31, hf4 c j h31 h32]), ok1 ht hG⟩, hS.F ht⟩) hS.2.2 dX0_reckon_22
  exact L_2 ((11 - x1.toInt) + 1).toNat x1 g _ _ ls (by omega) (by omega) (fun c j _ _ => rfl) hG hS (lv_sub hl [0, 1, 2] rfl)

set_option maxHeartbeats 4000000 in
set_option maxRecDepth 100000 in
/-- WeekBank.fees:  -/
theorem k_X8_fees (l : Launch) (dC : Nat → ClassId) (dI : Nat → Nat → Nat) (dA : Nat → ClassId) (sz : Nat) (X : va_W) (Γ : ty_G) (hU : Un Γ) (g : gh) (h0 : Nat) (t_h0 : ty Γ h0 1) (p1 : Int32) (p2 : Int32) (g2 : g 2 0 = g 34 0 ∧ 0 ≤ g 2 0 ∧ g 2 0 ≤ 10) : Met l yX8_fees (.code yX8_fees cX8_fees 4 (Option.some Jvm.ClassFile.FieldType.int) :: AL) ({ frames := 2, cells := 0, slots := 0, locals := 45 }) (PCx dC dI dA sz X Γ g [.ref h0, .int p1, .int p2]) (va_Qi (fun (r : Int32) (u : gh) => (∀ c j : Nat, c ≠ 30 → c ≠ 31 → c ≠ 32 → u c j = g c j)) (okb dC dI dA sz X Γ) (ty_A sz)) 0 0 (ty_A sz) := by
  refine Met.ofW (cc := cX8_fees) (maxL := 4) (ret := (Option.some Jvm.ClassFile.FieldType.int)) (by decide) rfl ?_
  intro p e s m args below meth c s₁ B hml hv
  obtain ⟨rfl, hG, hE⟩ := hv
  have hx := B.exec
  have hb := B.bytes
  have hr := B.returns
  have hts := atoms_spec B.pre
  have hA : ∀ w ∈ AL, w.before _ s = true := fun w h => hts w (List.mem_cons_of_mem _ h)
  have hown : s.vm.findClass RX8 = some m.cls := findClass_of_methodNamed B.named
  have hlocks := B.notSynchronized
  have hS : va_S (ty_A sz) s.heap s.heap [] := va_S.rf
  have hl := lv_entry ([.ref h0, .int p1, .int p2]) (n := 4) (Nat.le_of_ble_eq_true rfl)
  rw [lg_entry_eq]
  generalize (lg_sl ([.ref h0, .int p1, .int p2]) ++ List.replicate (4 - (lg_sl ([.ref h0, .int p1, .int p2])).length) Slot.unset).toArray = ls at hl ⊢
  have hl : lv_has ls 4 [(0, .ref h0), (1, .int p1), (2, .int p2)] := hl
  refine lv_iload_n hx hb dX8_fees_0 rfl (lv_at hl 1 rfl) ?_
  refine ty_iconst hx hb (1) dX8_fees_1 (by decide) (fun x1 h2 => ?_)
  refine ty_icmp_lt (tgt := 20) hx hb dX8_fees_2 (by decide) (fun c3 => ?_) (fun c3 => ?_)
  · skip
    refine ty_iconst hx hb (-1) dX8_fees_20 (by decide) (fun x4 h5 => ?_)
    exact W.iret (v := x4) hx hb hr (fun t ht hW => ⟨⟨x4, g, rfl, (fun c j h30 h31 h32 => by rfl), ok1 ht hG⟩, hS.F ht⟩) hS.2.2 dX8_fees_21
  · skip
    refine lv_iload_n hx hb dX8_fees_5 rfl (lv_at hl 1 rfl) ?_
    refine ty_ldc hx hb (999999) hown (hA _ wd_4_5) dX8_fees_6 (by decide) (fun x6 h7 => ?_)
    refine ty_icmp_gt (tgt := 20) hx hb dX8_fees_8 (by decide) (fun c8 => ?_) (fun c8 => ?_)
    · skip
      refine ty_iconst hx hb (-1) dX8_fees_20 (by decide) (fun x9 h10 => ?_)
      exact W.iret (v := x9) hx hb hr (fun t ht hW => ⟨⟨x9, g, rfl, (fun c j h30 h31 h32 => by rfl), ok1 ht hG⟩, hS.F ht⟩) hS.2.2 dX8_fees_21
    · skip
      refine lv_iload_n hx hb dX8_fees_11 rfl (lv_at hl 2 rfl) ?_
      refine ty_if_lt (tgt := 20) hx hb dX8_fees_12 (by decide) (fun c11 => ?_) (fun c11 => ?_)
      · skip
        refine ty_iconst hx hb (-1) dX8_fees_20 (by decide) (fun x12 h13 => ?_)
        exact W.iret (v := x12) hx hb hr (fun t ht hW => ⟨⟨x12, g, rfl, (fun c j h30 h31 h32 => by rfl), ok1 ht hG⟩, hS.F ht⟩) hS.2.2 dX8_fees_21
      · skip
        refine lv_iload_n hx hb dX8_fees_15 rfl (lv_at hl 2 rfl) ?_
        refine ty_iconst hx hb (2) dX8_fees_16 (by decide) (fun x14 h15 => ?_)
        refine ty_icmp_le (tgt := 22) hx hb dX8_fees_17 (by decide) (fun c16 => ?_) (fun c16 => ?_)
        · skip
          refine lv_aload_n hx hb dX8_fees_22 rfl (lv_at hl 0 rfl) ?_
          refine get_X8_12 hx hb hA hown hE hG t_h0 wd_1_169 dX8_fees_23 (fun b17 (t_b17 : ty Γ b17 9) => ?_)
          refine cV (va_runV (C := RX0) (As := []) (rest := []) ⟨hx, hb, hml, hown, hA⟩ (k_X0_clear l dC dI dA sz X Γ hU g b17 t_b17   ) ⟨callB_of 0 hA (al_A wd_4_9) rfl rfl rfl (hA _ wd_1_6) (hA _ wd_4_6) (by decide +kernel) ⟨Nat.le_of_ble_eq_true rfl, Nat.le_of_ble_eq_true rfl⟩, hA _ wd_4_7, hA _ wd_4_8⟩ ⟨bl, recv_X0 hE hG t_b17, fun U hU9 hW9 => ⟨rfl, by rw [hU9]; exact hG, hE.go hS hU9 hW9⟩⟩ rfl rfl hl.1 rfl (lv_room (Nat.le_of_ble_eq_true rfl)) dX8_fees_26 ⟨Nat.zero_le _, Nat.zero_le _⟩) hS (fun u18 H locs w19 hG hS => ?_)
          obtain ⟨hf20, w19⟩ := w19
          refine ty_iconst hx hb (0) dX8_fees_29 (by decide) (fun x21 h22 => ?_)
          refine lv_istore_n (lv' := [(3, .int x21), (0, .ref h0), (1, .int p1), (2, .int p2)]) hx hb dX8_fees_30 rfl hl (by decide) rfl (fun ls hl => ?_)
          have L_31 : ∀ (n : Nat) (v3_31 : Int32) (g23 : gh) (H : Heap) (locs : List Loc) (ls : Array Slot), (g23 2 0 - v3_31.toInt : Int) < n → 0 ≤ v3_31.toInt ∧ v3_31.toInt ≤ g23 2 0 → 0 ≤ g23 30 0 ∧ g23 30 0 ≤ 10 → (∀ c j : Nat, c ≠ 30 → g23 c j = u18 c j) → ty_ok (dC, dI) vwCl Γ (TP dA Γ g23) sz X H → va_S (ty_A sz) s.heap H locs → lv_has ls 4 [(3, .int v3_31), (0, .ref h0), (1, .int p1), (2, .int p2)] → W p l e (headSpec (.code yX8_fees cX8_fees 4 (Option.some Jvm.ClassFile.FieldType.int) :: AL) ({ frames := 2, cells := 0, slots := 0, locals := 45 })).room s m ([.ref h0, .int p1, .int p2] : List Value).toArray below meth c H locs 0 0 (MQ below (va_Qi (fun (r : Int32) (u : gh) => (∀ c j : Nat, c ≠ 30 → c ≠ 31 → c ≠ 32 → u c j = g c j)) (okb dC dI dA sz X Γ) (ty_A sz)) ([.ref h0, .int p1, .int p2] : List Value).toArray s 0 0 (ty_A sz)) (F0 m 31 ls []) := by
            intro n
            induction n with
            | zero => intro v3_31 g23 H locs ls hm hi0 hi1 hf24 hG hS hl; exfalso; omega
            | succ n ih_31 =>
              intro v3_31 g23 H locs ls hm hi0 hi1 hf24 hG hS hl
              have hk25 : g23 2 0 = u18 2 0 := hf24 2 0 (by decide)
              have hk26 : u18 2 0 = g 2 0 := hf20 2 0 (by decide) (by decide) (by decide)
              refine lv_iload_n hx hb dX8_fees_31 rfl (lv_at hl 0 rfl) ?_
              refine lv_aload_n hx hb dX8_fees_32 rfl (lv_at hl 1 rfl) ?_
              refine get_X8_3 hx hb hA hown hE hG t_h0 wd_1_160 dX8_fees_33 (fun x27 h28 => ?_)
              refine ty_icmp_ge (tgt := 82) hx hb dX8_fees_36 (by decide) (fun c30 => ?_) (fun c30 => ?_)
              · skip
                refine lv_aload_n hx hb dX8_fees_82 rfl (lv_at hl 1 rfl) ?_
                refine get_X8_12 hx hb hA hown hE hG t_h0 wd_1_169 dX8_fees_83 (fun b31 (t_b31 : ty Γ b31 9) => ?_)
                refine lv_iload_n hx hb dX8_fees_86 rfl (lv_at hl 2 rfl) ?_
                refine cV (va_runV (C := RX0) (As := [.int p1]) (rest := []) ⟨hx, hb, hml, hown, hA⟩ (k_X0_reckon l dC dI dA sz X Γ hU g23 b31 t_b31 p1   (by omega)) ⟨callB_of 1 hA (al_A wd_4_17) rfl rfl rfl (hA _ wd_1_6) (hA _ wd_4_14) (by decide +kernel) ⟨Nat.le_of_ble_eq_true rfl, Nat.le_of_ble_eq_true rfl⟩, hA _ wd_4_15, hA _ wd_4_16⟩ ⟨bl, recv_X0 hE hG t_b31, fun U hU9 hW9 => ⟨rfl, by rw [hU9]; exact hG, hE.go hS hU9 hW9⟩⟩ rfl rfl hl.1 rfl (lv_room (Nat.le_of_ble_eq_true rfl)) dX8_fees_87 ⟨Nat.zero_le _, Nat.zero_le _⟩) hS (fun u32 H locs w33 hG hS => ?_)
                have hf34 := w33
                refine lv_iload_n hx hb dX8_fees_90 rfl (lv_at hl 3 rfl) ?_
                refine ty_if_ne (tgt := 102) hx hb dX8_fees_91 (by decide) (fun c35 => ?_) (fun c35 => ?_)
                · skip
                  refine lv_iload_n hx hb dX8_fees_102 rfl (lv_at hl 3 rfl) ?_
                  refine ty_iconst hx hb (1) dX8_fees_103 (by decide) (fun x36 h37 => ?_)
                  refine ty_icmp_ne (tgt := 117) hx hb dX8_fees_104 (by decide) (fun c38 => ?_) (fun c38 => ?_)
                  · skip
                    refine lv_aload_n hx hb dX8_fees_117 rfl (lv_at hl 1 rfl) ?_
                    refine get_X8_12 hx hb hA hown hE hG t_h0 wd_1_169 dX8_fees_118 (fun b39 (t_b39 : ty Γ b39 9) => ?_)
                    have hk40 : u32 30 0 = g23 30 0 := hf34 30 0 (by decide) (by decide)
                    refine cI (va_runV (C := RX0) (As := []) (rest := []) ⟨hx, hb, hml, hown, hA⟩ (k_X0_countStaying l dC dI dA sz X Γ hU u32 b39 t_b39   (by omega)) ⟨callB_of 0 hA (al_A wd_4_29) rfl rfl rfl (hA _ wd_1_6) (hA _ wd_4_26) (by decide +kernel) ⟨Nat.le_of_ble_eq_true rfl, Nat.le_of_ble_eq_true rfl⟩, hA _ wd_4_27, hA _ wd_4_28⟩ ⟨bl, recv_X0 hE hG t_b39, fun U hU9 hW9 => ⟨rfl, by rw [hU9]; exact hG, hE.go hS hU9 hW9⟩⟩ rfl rfl hl.1 rfl (lv_room (Nat.le_of_ble_eq_true rfl)) dX8_fees_121 ⟨Nat.zero_le _, Nat.zero_le _⟩) hS (fun x43 u41 H locs w42 hG hS => ?_)
                    have eu44 := w42
                    rw [eu44] at hG
                    exact W.iret (v := x43) hx hb hr (fun t ht hW => ⟨⟨x43, u32, rfl, (fun c j h30 h31 h32 => by rw [hf34 c j h31 h32, hf24 c j h30, hf20 c j h30 h31 h32]), ok1 ht hG⟩, hS.F ht⟩) hS.2.2 dX8_fees_124
                  · skip
                    refine lv_aload_n hx hb dX8_fees_107 rfl (lv_at hl 1 rfl) ?_
                    refine get_X8_12 hx hb hA hown hE hG t_h0 wd_1_169 dX8_fees_108 (fun b45 (t_b45 : ty Γ b45 9) => ?_)
                    refine get_X0_5 hx hb hA hown hE hG t_b45 wd_1_142 dX8_fees_111 (fun x46 h47 => ?_)
                    refine lv_goto (tgt := 124) hx hb dX8_fees_114 (by decide) ?_
                    exact W.iret (v := x46) hx hb hr (fun t ht hW => ⟨⟨x46, u32, rfl, (fun c j h30 h31 h32 => by rw [hf34 c j h31 h32, hf24 c j h30, hf20 c j h30 h31 h32]), ok1 ht hG⟩, hS.F ht⟩) hS.2.2 dX8_fees_124
                · skip
                  refine lv_aload_n hx hb dX8_fees_94 rfl (lv_at hl 1 rfl) ?_
                  refine get_X8_12 hx hb hA hown hE hG t_h0 wd_1_169 dX8_fees_95 (fun b49 (t_b49 : ty Γ b49 9) => ?_)
                  refine get_X0_4 hx hb hA hown hE hG t_b49 wd_1_140 dX8_fees_98 (fun x50 h51 => ?_)
                  exact W.iret (v := x50) hx hb hr (fun t ht hW => ⟨⟨x50, u32, rfl, (fun c j h30 h31 h32 => by rw [hf34 c j h31 h32, hf24 c j h30, hf20 c j h30 h31 h32]), ok1 ht hG⟩, hS.F ht⟩) hS.2.2 dX8_fees_101
              · skip
                refine lv_aload_n hx hb dX8_fees_39 rfl (lv_at hl 1 rfl) ?_
                refine get_X8_2 hx hb hA hown hE hG t_h0 wd_1_159 dX8_fees_40 (fun b53 (t_b53 : ty Γ b53 11) => ?_)
                refine lv_iload_n hx hb dX8_fees_43 rfl (lv_at hl 0 rfl) ?_
                refine ald_11 hx hb hE hG t_b53 (by omega) dX8_fees_44 (fun j55 r54 h56 t_r54 h57 => ?_)
                have hk58 : g23 34 0 = u18 34 0 := hf24 34 0 (by decide)
                have hk59 : u18 34 0 = g 34 0 := hf20 34 0 (by decide) (by decide) (by decide)
                obtain ⟨b60, rfl⟩ := Option.ne_none_iff_exists'.mp (h57 (by omega))
                have t_b60 : ty Γ b60 3 := t_r54 b60 rfl
                have hl : lv_has ls 4 [(3, .int v3_31), (0, .ref h0), (1, .int p1), (2, .int p2)] := hl
                refine get_X3_5 hx hb hA hown hE hG t_b60 wd_2_19 dX8_fees_45 (fun x61 h62 => ?_)
                refine ty_if_ne (tgt := 76) hx hb dX8_fees_48 (by decide) (fun c63 => ?_) (fun c63 => ?_)
                · skip
                  obtain ⟨x64, h65⟩ : ∃ y : Int32, y = v3_31 + Int32.ofInt (1) := ⟨_, rfl⟩
                  try have h66 : x64.toInt = v3_31.toInt + (1) := ty_inc h65 (by decide) (by omega) (by omega)
                  refine lv_iinc (v := x64) (lv' := [(3, .int x64), (0, .ref h0), (1, .int p1), (2, .int p2)]) hx hb dX8_fees_76 hl (k := 0) rfl h65.symm (by decide) rfl (fun ls hl => ?_)
                  refine lv_goto (tgt := 31) hx hb dX8_fees_79 (by decide) ?_
                  exact ih_31 x64 g23 _ _ ls (by omega) (by omega) (by omega) (fun c j h30 => by rw [hf24 c j h30]) hG hS (lv_sub hl [0, 1, 2, 3] rfl)
                · skip
                  refine lv_aload_n hx hb dX8_fees_51 rfl (lv_at hl 1 rfl) ?_
                  refine get_X8_12 hx hb hA hown hE hG t_h0 wd_1_169 dX8_fees_52 (fun b67 (t_b67 : ty Γ b67 9) => ?_)
                  refine lv_aload_n hx hb dX8_fees_55 rfl (lv_at hl 1 rfl) ?_
                  refine get_X8_2 hx hb hA hown hE hG t_h0 wd_1_159 dX8_fees_56 (fun b68 (t_b68 : ty Γ b68 11) => ?_)
                  refine lv_iload_n hx hb dX8_fees_59 rfl (lv_at hl 0 rfl) ?_
                  refine ald_11 hx hb hE hG t_b68 (by omega) dX8_fees_60 (fun j70 r69 h71 t_r69 h72 => ?_)
                  obtain ⟨b73, rfl⟩ := Option.ne_none_iff_exists'.mp (h72 (by omega))
                  have t_b73 : ty Γ b73 3 := t_r69 b73 rfl
                  have hl : lv_has ls 4 [(3, .int v3_31), (0, .ref h0), (1, .int p1), (2, .int p2)] := hl
                  refine get_X3_1 hx hb hA hown hE hG t_b73 wd_2_9 dX8_fees_61 (fun x74 => ?_)
                  refine lv_aload_n hx hb dX8_fees_64 rfl (lv_at hl 1 rfl) ?_
                  refine get_X8_2 hx hb hA hown hE hG t_h0 wd_1_159 dX8_fees_65 (fun b75 (t_b75 : ty Γ b75 11) => ?_)
                  refine lv_iload_n hx hb dX8_fees_68 rfl (lv_at hl 0 rfl) ?_
                  refine ald_11 hx hb hE hG t_b75 (by omega) dX8_fees_69 (fun j77 r76 h78 t_r76 h79 => ?_)
                  obtain ⟨b80, rfl⟩ := Option.ne_none_iff_exists'.mp (h79 (by omega))
                  have t_b80 : ty Γ b80 3 := t_r76 b80 rfl
                  have hl : lv_has ls 4 [(3, .int v3_31), (0, .ref h0), (1, .int p1), (2, .int p2)] := hl
                  refine get_X3_4 hx hb hA hown hE hG t_b80 wd_2_17 dX8_fees_70 (fun x81 => ?_)
                  refine cV (va_runV (C := RX0) (As := [.int x74, .int x81]) (rest := []) ⟨hx, hb, hml, hown, hA⟩ (k_X0_add l dC dI dA sz X Γ hU g23 b67 t_b67 x74 x81   (by omega)) ⟨callB_of 2 hA (al_A wd_4_13) rfl rfl rfl (hA _ wd_1_6) (hA _ wd_4_10) (by decide +kernel) ⟨Nat.le_of_ble_eq_true rfl, Nat.le_of_ble_eq_true rfl⟩, hA _ wd_4_11, hA _ wd_4_12⟩ ⟨bl, recv_X0 hE hG t_b67, fun U hU9 hW9 => ⟨rfl, by rw [hU9]; exact hG, hE.go hS hU9 hW9⟩⟩ rfl rfl hl.1 rfl (lv_room (Nat.le_of_ble_eq_true rfl)) dX8_fees_73 ⟨Nat.zero_le _, Nat.zero_le _⟩) hS (fun u82 H locs w83 hG hS => ?_)
                  obtain ⟨hf84, w83⟩ := w83
                  obtain ⟨x85, h86⟩ : ∃ y : Int32, y = v3_31 + Int32.ofInt (1) := ⟨_, rfl⟩
                  try have h87 : x85.toInt = v3_31.toInt + (1) := ty_inc h86 (by decide) (by omega) (by omega)
                  refine lv_iinc (v := x85) (lv' := [(3, .int x85), (0, .ref h0), (1, .int p1), (2, .int p2)]) hx hb dX8_fees_76 hl (k := 0) rfl h86.symm (by decide) rfl (fun ls hl => ?_)
                  refine lv_goto (tgt := 31) hx hb dX8_fees_79 (by decide) ?_
                  have hk88 : u82 2 0 = g23 2 0 := hf84 2 0 (by decide)
                  exact ih_31 x85 u82 _ _ ls (by omega) (by omega) (by omega) (fun c j h30 => by rw [hf84 c j h30, hf24 c j h30]) hG hS (lv_sub hl [0, 1, 2, 3] rfl)
          have hk89 : u18 2 0 = g 2 0 := hf20 2 0 (by decide) (by decide) (by decide)
          exact L_31 ((u18 2 0 - x21.toInt) + 1).toNat x21 u18 _ _ ls (by omega) (by omega) (by omega) (fun c j _ => rfl) hG hS (lv_sub hl [0, 1, 2, 3] rfl)
        · skip
          refine ty_iconst hx hb (-1) dX8_fees_20 (by decide) (fun x90 h91 => ?_)
          exact W.iret (v := x90) hx hb hr (fun t ht hW => ⟨⟨x90, g, rfl, (fun c j h30 h31 h32 => by rfl), ok1 ht hG⟩, hS.F ht⟩) hS.2.2 dX8_fees_21

set_option maxHeartbeats 4000000 in
set_option maxRecDepth 100000 in
/-- WeekBank.party:  -/
theorem k_X8_party (l : Launch) (dC : Nat → ClassId) (dI : Nat → Nat → Nat) (dA : Nat → ClassId) (sz : Nat) (X : va_W) (Γ : ty_G) (hU : Un Γ) (g : gh) (h0 : Nat) (t_h0 : ty Γ h0 1) (p1 : Int32) (p2 : Int32) (g1 : g 1 0 = g 33 0 ∧ 0 ≤ g 1 0 ∧ g 1 0 ≤ 6) : Met l yX8_party (.code yX8_party cX8_party 5 (Option.some Jvm.ClassFile.FieldType.int) :: AL) ({ frames := 2, cells := 0, slots := 0, locals := 40 }) (PCx dC dI dA sz X Γ g [.ref h0, .int p1, .int p2]) (va_Qi (fun (r : Int32) (u : gh) => u = g) (okb dC dI dA sz X Γ) (ty_A sz)) 0 0 (ty_A sz) := by
  refine Met.ofW (cc := cX8_party) (maxL := 5) (ret := (Option.some Jvm.ClassFile.FieldType.int)) (by decide) rfl ?_
  intro p e s m args below meth c s₁ B hml hv
  obtain ⟨rfl, hG, hE⟩ := hv
  have hx := B.exec
  have hb := B.bytes
  have hr := B.returns
  have hts := atoms_spec B.pre
  have hA : ∀ w ∈ AL, w.before _ s = true := fun w h => hts w (List.mem_cons_of_mem _ h)
  have hown : s.vm.findClass RX8 = some m.cls := findClass_of_methodNamed B.named
  have hlocks := B.notSynchronized
  have hS : va_S (ty_A sz) s.heap s.heap [] := va_S.rf
  have hl := lv_entry ([.ref h0, .int p1, .int p2]) (n := 5) (Nat.le_of_ble_eq_true rfl)
  rw [lg_entry_eq]
  generalize (lg_sl ([.ref h0, .int p1, .int p2]) ++ List.replicate (5 - (lg_sl ([.ref h0, .int p1, .int p2])).length) Slot.unset).toArray = ls at hl ⊢
  have hl : lv_has ls 5 [(0, .ref h0), (1, .int p1), (2, .int p2)] := hl
  refine lv_aload_n hx hb dX8_party_0 rfl (lv_at hl 0 rfl) ?_
  refine lv_iload_n hx hb dX8_party_1 rfl (lv_at hl 1 rfl) ?_
  refine cQ (va_runV (C := RX8) (As := [.int p1]) (rest := []) ⟨hx, hb, hml, hown, hA⟩ (k_X8_flatAt l dC dI dA sz X Γ hU g h0 t_h0 p1   (by omega)) ⟨callB_of 1 hA (al_A wd_2_48) rfl rfl rfl (hA _ wd_1_1) (hA _ wd_2_45) (by decide +kernel) ⟨Nat.le_of_ble_eq_true rfl, Nat.le_of_ble_eq_true rfl⟩, hA _ wd_2_47, hA _ ws_0⟩ ⟨bl, recv_X8 hE hG t_h0, fun U hU9 hW9 => ⟨rfl, by rw [hU9]; exact hG, hE.go hS hU9 hW9⟩⟩ rfl rfl hl.1 rfl (lv_room (Nat.le_of_ble_eq_true rfl)) dX8_party_2 ⟨Nat.zero_le _, Nat.zero_le _⟩) hS (fun r3 u1 H locs w2 hG hS => ?_)
  obtain ⟨t_r3, w2⟩ := w2
  obtain ⟨eu4, w2⟩ := w2
  rw [eu4] at hG
  refine ty_astore_nq (lv' := [(3, va_rf r3), (0, .ref h0), (1, .int p1), (2, .int p2)]) hx hb dX8_party_5 rfl hl (by decide) rfl (fun ls hl => ?_)
  refine ty_aload_nq hx hb dX8_party_6 rfl (lv_at hl 0 rfl) ?_
  refine ty_ifnull (tgt := 17) hx hb dX8_party_7 (by decide) (fun h6 => ?_) (fun b5 h6 => ?_)
  · skip
    subst h6
    have hl : lv_has ls 5 [(3, .null), (0, .ref h0), (1, .int p1), (2, .int p2)] := hl
    refine ty_iconst hx hb (-1) dX8_party_17 (by decide) (fun x7 h8 => ?_)
    exact W.iret (v := x7) hx hb hr (fun t ht hW => ⟨⟨x7, g, rfl, rfl, ok1 ht hG⟩, hS.F ht⟩) hS.2.2 dX8_party_18
  · skip
    subst h6
    have t_b5 : ty Γ b5 2 := t_r3 b5 rfl
    have hl : lv_has ls 5 [(3, .ref b5), (0, .ref h0), (1, .int p1), (2, .int p2)] := hl
    refine lv_iload_n hx hb dX8_party_10 rfl (lv_at hl 3 rfl) ?_
    refine cI (va_runS (As := [.int p2]) (rest := []) ⟨hx, hb, hml, hown, hA⟩ (k_X8_isWeek l dC dI dA sz X Γ hU g p2   ) ⟨callB_of 1 hA (al_A wd_2_59) rfl rfl rfl (hA _ wd_1_1) (hA _ wd_2_57) (by decide +kernel) ⟨Nat.le_of_ble_eq_true rfl, Nat.le_of_ble_eq_true rfl⟩, hA _ wd_2_58⟩ ⟨bl, fun U hU9 hW9 => ⟨rfl, by rw [hU9]; exact hG, hE.go hS hU9 hW9⟩⟩ rfl rfl hl.1 rfl (lv_room (Nat.le_of_ble_eq_true rfl)) dX8_party_11 ⟨Nat.zero_le _, Nat.zero_le _⟩) hS (fun x11 u9 H locs w10 hG hS => ?_)
    obtain ⟨eu12, w10⟩ := w10
    rw [eu12] at hG
    refine ty_if_ne (tgt := 19) hx hb dX8_party_14 (by decide) (fun c13 => ?_) (fun c13 => ?_)
    · skip
      refine lv_aload_n hx hb dX8_party_19 rfl (lv_at hl 0 rfl) ?_
      refine get_X1_5 hx hb hA hown hE hG t_b5 wd_1_223 dX8_party_20 (fun b14 (t_b14 : ty Γ b14 15) => ?_)
      refine lv_iload_n hx hb dX8_party_23 rfl (lv_at hl 3 rfl) ?_
      refine ald_15 hx hb hE hG t_b14 (by omega) dX8_party_24 (fun j16 r15 h17 t_r15 => ?_)
      refine ty_astoreq (lv' := [(4, va_rf r15), (3, .ref b5), (0, .ref h0), (1, .int p1), (2, .int p2)]) hx hb dX8_party_25 hl (by decide) rfl (fun ls hl => ?_)
      refine ty_aloadq hx hb dX8_party_27 (lv_at hl 0 rfl) ?_
      refine ty_ifnull (tgt := 40) hx hb dX8_party_29 (by decide) (fun h20 => ?_) (fun b19 h20 => ?_)
      · skip
        subst h20
        have hl : lv_has ls 5 [(4, .null), (3, .ref b5), (0, .ref h0), (1, .int p1), (2, .int p2)] := hl
        refine lv_aload_n hx hb dX8_party_40 rfl (lv_at hl 1 rfl) ?_
        refine get_X1_3 hx hb hA hown hE hG t_b5 wd_1_219 dX8_party_41 (fun b21 (t_b21 : ty Γ b21 13) => ?_)
        refine lv_iload_n hx hb dX8_party_44 rfl (lv_at hl 4 rfl) ?_
        refine ald_13 hx hb hE hG t_b21 (by omega) dX8_party_45 (fun j23 r22 h24 t_r22 => ?_)
        refine cI (va_runS (As := [va_rf r22]) (rest := []) ⟨hx, hb, hml, hown, hA⟩ (k_X8_numberOf l dC dI dA sz X Γ hU g r22 t_r22   ) ⟨callB_of 1 hA (al_A wd_4_36) rfl rfl rfl (hA _ wd_1_1) (hA _ wd_4_34) (by decide +kernel) ⟨Nat.le_of_ble_eq_true rfl, Nat.le_of_ble_eq_true rfl⟩, hA _ wd_4_35⟩ ⟨bl, fun U hU9 hW9 => ⟨rfl, by rw [hU9]; exact hG, hE.go hS hU9 hW9⟩⟩ rfl rfl hl.1 rfl (lv_room (Nat.le_of_ble_eq_true rfl)) dX8_party_46 ⟨Nat.zero_le _, Nat.zero_le _⟩) hS (fun x28 u26 H locs w27 hG hS => ?_)
        have eu29 := w27
        rw [eu29] at hG
        exact W.iret (v := x28) hx hb hr (fun t ht hW => ⟨⟨x28, g, rfl, rfl, ok1 ht hG⟩, hS.F ht⟩) hS.2.2 dX8_party_49
      · skip
        subst h20
        have t_b19 : ty Γ b19 4 := t_r15 b19 rfl
        have hl : lv_has ls 5 [(4, .ref b19), (3, .ref b5), (0, .ref h0), (1, .int p1), (2, .int p2)] := hl
        refine lv_aload hx hb dX8_party_32 (lv_at hl 0 rfl) ?_
        refine cI (va_runV (C := RX2) (As := []) (rest := []) ⟨hx, hb, hml, hown, hA⟩ (k_X2_isOut l dC dI dA sz X Γ hU g b19 t_b19   ) ⟨callB_of 0 hA (al_A wd_2_63) rfl rfl rfl (hA _ wd_1_15) (hA _ wd_2_60) (by decide +kernel) ⟨Nat.le_of_ble_eq_true rfl, Nat.le_of_ble_eq_true rfl⟩, hA _ wd_2_61, hA _ wd_2_62⟩ ⟨bl, recv_X2 hE hG t_b19, fun U hU9 hW9 => ⟨rfl, by rw [hU9]; exact hG, hE.go hS hU9 hW9⟩⟩ rfl rfl hl.1 rfl (lv_room (Nat.le_of_ble_eq_true rfl)) dX8_party_34 ⟨Nat.zero_le _, Nat.zero_le _⟩) hS (fun x32 u30 H locs w31 hG hS => ?_)
        obtain ⟨eu33, w31⟩ := w31
        rw [eu33] at hG
        refine ty_if_ne (tgt := 50) hx hb dX8_party_37 (by decide) (fun c34 => ?_) (fun c34 => ?_)
        · skip
          refine lv_aload hx hb dX8_party_50 (lv_at hl 0 rfl) ?_
          refine cI (va_runV (C := RX2) (As := []) (rest := []) ⟨hx, hb, hml, hown, hA⟩ (k_X2_isGot l dC dI dA sz X Γ hU g b19 t_b19   ) ⟨callB_of 0 hA (al_A wd_2_67) rfl rfl rfl (hA _ wd_1_15) (hA _ wd_4_37) (by decide +kernel) ⟨Nat.le_of_ble_eq_true rfl, Nat.le_of_ble_eq_true rfl⟩, hA _ wd_2_65, hA _ wd_2_66⟩ ⟨bl, recv_X2 hE hG t_b19, fun U hU9 hW9 => ⟨rfl, by rw [hU9]; exact hG, hE.go hS hU9 hW9⟩⟩ rfl rfl hl.1 rfl (lv_room (Nat.le_of_ble_eq_true rfl)) dX8_party_52 ⟨Nat.zero_le _, Nat.zero_le _⟩) hS (fun x37 u35 H locs w36 hG hS => ?_)
          obtain ⟨eu38, w36⟩ := w36
          rw [eu38] at hG
          refine ty_if_eq (tgt := 69) hx hb dX8_party_55 (by decide) (fun c39 => ?_) (fun c39 => ?_)
          · skip
            refine ty_bipush hx hb (-2) dX8_party_69 (by decide) (fun x40 h41 => ?_)
            exact W.iret (v := x40) hx hb hr (fun t ht hW => ⟨⟨x40, g, rfl, rfl, ok1 ht hG⟩, hS.F ht⟩) hS.2.2 dX8_party_71
          · skip
            refine lv_aload hx hb dX8_party_58 (lv_at hl 0 rfl) ?_
            obtain ⟨fs42, fs42a, fs42l, fs42F⟩ := pin_X2 hG t_b19
            obtain ⟨r43, e_r43, t_r43⟩ : vN Γ 3 (vp_V fs42 9) := fs42F 9 (by decide)
            refine gep_X2 hx hb hA hE fs42a hown 9 (by decide) wd_3_43 rfl (va_rf r43) (vp_at fs42l (by decide) e_r43) dX8_party_60 ?_
            refine cI (va_runS (As := [va_rf r43]) (rest := []) ⟨hx, hb, hml, hown, hA⟩ (k_X8_numberOf l dC dI dA sz X Γ hU g r43 t_r43   ) ⟨callB_of 1 hA (al_A wd_4_36) rfl rfl rfl (hA _ wd_1_1) (hA _ wd_4_34) (by decide +kernel) ⟨Nat.le_of_ble_eq_true rfl, Nat.le_of_ble_eq_true rfl⟩, hA _ wd_4_35⟩ ⟨bl, fun U hU9 hW9 => ⟨rfl, by rw [hU9]; exact hG, hE.go hS hU9 hW9⟩⟩ rfl rfl hl.1 rfl (lv_room (Nat.le_of_ble_eq_true rfl)) dX8_party_63 ⟨Nat.zero_le _, Nat.zero_le _⟩) hS (fun x46 u44 H locs w45 hG hS => ?_)
            have eu47 := w45
            rw [eu47] at hG
            refine lv_goto (tgt := 71) hx hb dX8_party_66 (by decide) ?_
            exact W.iret (v := x46) hx hb hr (fun t ht hW => ⟨⟨x46, g, rfl, rfl, ok1 ht hG⟩, hS.F ht⟩) hS.2.2 dX8_party_71
        · skip
          refine lv_aload_n hx hb dX8_party_40 rfl (lv_at hl 1 rfl) ?_
          refine get_X1_3 hx hb hA hown hE hG t_b5 wd_1_219 dX8_party_41 (fun b48 (t_b48 : ty Γ b48 13) => ?_)
          refine lv_iload_n hx hb dX8_party_44 rfl (lv_at hl 4 rfl) ?_
          refine ald_13 hx hb hE hG t_b48 (by omega) dX8_party_45 (fun j50 r49 h51 t_r49 => ?_)
          refine cI (va_runS (As := [va_rf r49]) (rest := []) ⟨hx, hb, hml, hown, hA⟩ (k_X8_numberOf l dC dI dA sz X Γ hU g r49 t_r49   ) ⟨callB_of 1 hA (al_A wd_4_36) rfl rfl rfl (hA _ wd_1_1) (hA _ wd_4_34) (by decide +kernel) ⟨Nat.le_of_ble_eq_true rfl, Nat.le_of_ble_eq_true rfl⟩, hA _ wd_4_35⟩ ⟨bl, fun U hU9 hW9 => ⟨rfl, by rw [hU9]; exact hG, hE.go hS hU9 hW9⟩⟩ rfl rfl hl.1 rfl (lv_room (Nat.le_of_ble_eq_true rfl)) dX8_party_46 ⟨Nat.zero_le _, Nat.zero_le _⟩) hS (fun x55 u53 H locs w54 hG hS => ?_)
          have eu56 := w54
          rw [eu56] at hG
          exact W.iret (v := x55) hx hb hr (fun t ht hW => ⟨⟨x55, g, rfl, rfl, ok1 ht hG⟩, hS.F ht⟩) hS.2.2 dX8_party_49
    · skip
      refine ty_iconst hx hb (-1) dX8_party_17 (by decide) (fun x57 h58 => ?_)
      exact W.iret (v := x57) hx hb hr (fun t ht hW => ⟨⟨x57, g, rfl, rfl, ok1 ht hG⟩, hS.F ht⟩) hS.2.2 dX8_party_18

set_option maxHeartbeats 4000000 in
set_option maxRecDepth 100000 in
/-- WeekBank.ownerOf:  -/
theorem k_X8_ownerOf (l : Launch) (dC : Nat → ClassId) (dI : Nat → Nat → Nat) (dA : Nat → ClassId) (sz : Nat) (X : va_W) (Γ : ty_G) (hU : Un Γ) (g : gh) (h0 : Nat) (t_h0 : ty Γ h0 1) (p1 : Int32) (p2 : Int32) (g2 : g 2 0 = g 34 0 ∧ 0 ≤ g 2 0 ∧ g 2 0 ≤ 10) : Met l yX8_ownerOf (.code yX8_ownerOf cX8_ownerOf 4 (Option.some Jvm.ClassFile.FieldType.int) :: AL) ({ frames := 1, cells := 0, slots := 0, locals := 21 }) (PCx dC dI dA sz X Γ g [.ref h0, .int p1, .int p2]) (va_Qi (fun (r : Int32) (u : gh) => u = g) (okb dC dI dA sz X Γ) (ty_A sz)) 0 0 (ty_A sz) := by
  refine Met.ofW (cc := cX8_ownerOf) (maxL := 4) (ret := (Option.some Jvm.ClassFile.FieldType.int)) (by decide) rfl ?_
  intro p e s m args below meth c s₁ B hml hv
  obtain ⟨rfl, hG, hE⟩ := hv
  have hx := B.exec
  have hb := B.bytes
  have hr := B.returns
  have hts := atoms_spec B.pre
  have hA : ∀ w ∈ AL, w.before _ s = true := fun w h => hts w (List.mem_cons_of_mem _ h)
  have hown : s.vm.findClass RX8 = some m.cls := findClass_of_methodNamed B.named
  have hlocks := B.notSynchronized
  have hS : va_S (ty_A sz) s.heap s.heap [] := va_S.rf
  have hl := lv_entry ([.ref h0, .int p1, .int p2]) (n := 4) (Nat.le_of_ble_eq_true rfl)
  rw [lg_entry_eq]
  generalize (lg_sl ([.ref h0, .int p1, .int p2]) ++ List.replicate (4 - (lg_sl ([.ref h0, .int p1, .int p2])).length) Slot.unset).toArray = ls at hl ⊢
  have hl : lv_has ls 4 [(0, .ref h0), (1, .int p1), (2, .int p2)] := hl
  refine lv_aload_n hx hb dX8_ownerOf_0 rfl (lv_at hl 0 rfl) ?_
  refine lv_iload_n hx hb dX8_ownerOf_1 rfl (lv_at hl 1 rfl) ?_
  refine cQ (va_runV (C := RX8) (As := [.int p1]) (rest := []) ⟨hx, hb, hml, hown, hA⟩ (k_X8_ownerAt l dC dI dA sz X Γ hU g h0 t_h0 p1   (by omega)) ⟨callB_of 1 hA (al_A wd_2_56) rfl rfl rfl (hA _ wd_1_1) (hA _ wd_2_53) (by decide +kernel) ⟨Nat.le_of_ble_eq_true rfl, Nat.le_of_ble_eq_true rfl⟩, hA _ wd_2_55, hA _ ws_2⟩ ⟨bl, recv_X8 hE hG t_h0, fun U hU9 hW9 => ⟨rfl, by rw [hU9]; exact hG, hE.go hS hU9 hW9⟩⟩ rfl rfl hl.1 rfl (lv_room (Nat.le_of_ble_eq_true rfl)) dX8_ownerOf_2 ⟨Nat.zero_le _, Nat.zero_le _⟩) hS (fun r3 u1 H locs w2 hG hS => ?_)
  obtain ⟨t_r3, w2⟩ := w2
  obtain ⟨eu4, w2⟩ := w2
  rw [eu4] at hG
  refine ty_astore_nq (lv' := [(3, va_rf r3), (0, .ref h0), (1, .int p1), (2, .int p2)]) hx hb dX8_ownerOf_5 rfl hl (by decide) rfl (fun ls hl => ?_)
  refine ty_aload_nq hx hb dX8_ownerOf_6 rfl (lv_at hl 0 rfl) ?_
  refine ty_ifnonnull (tgt := 12) hx hb dX8_ownerOf_7 (by decide) (fun b5 h6 => ?_) (fun h6 => ?_)
  · skip
    subst h6
    have t_b5 : ty Γ b5 3 := t_r3 b5 rfl
    have hl : lv_has ls 4 [(3, .ref b5), (0, .ref h0), (1, .int p1), (2, .int p2)] := hl
    refine lv_iload_n hx hb dX8_ownerOf_12 rfl (lv_at hl 3 rfl) ?_
    by_cases c7 : p2.toInt < 0 ∨ 5 < p2.toInt
    · skip
      refine lv_tableOut (tgt := 98) hx hb dX8_ownerOf_13 c7 (by decide) ?_
      refine ty_iconst hx hb (-1) dX8_ownerOf_98 (by decide) (fun x8 h9 => ?_)
      exact W.iret (v := x8) hx hb hr (fun t ht hW => ⟨⟨x8, g, rfl, rfl, ok1 ht hG⟩, hS.F ht⟩) hS.2.2 dX8_ownerOf_99
    · skip
      rcases (show p2.toInt = 0 ∨ p2.toInt = 1 ∨ p2.toInt = 2 ∨ p2.toInt = 3 ∨ p2.toInt = 4 ∨ p2.toInt = 5 by omega) with q10 | q11 | q12 | q13 | q14 | q15
      · skip
        refine lv_tableIn (tgt := 52) (off := 39) hx hb dX8_ownerOf_13 (by omega) (by omega) (by rw [q10]; rfl) (by decide) ?_
        refine lv_aload_n hx hb dX8_ownerOf_52 rfl (lv_at hl 0 rfl) ?_
        refine get_X3_2 hx hb hA hown hE hG t_b5 wd_2_12 dX8_ownerOf_53 (fun x16 => ?_)
        exact W.iret (v := x16) hx hb hr (fun t ht hW => ⟨⟨x16, g, rfl, rfl, ok1 ht hG⟩, hS.F ht⟩) hS.2.2 dX8_ownerOf_56
      · skip
        refine lv_tableIn (tgt := 57) (off := 44) hx hb dX8_ownerOf_13 (by omega) (by omega) (by rw [q11]; rfl) (by decide) ?_
        refine lv_aload_n hx hb dX8_ownerOf_57 rfl (lv_at hl 0 rfl) ?_
        refine get_X3_3 hx hb hA hown hE hG t_b5 wd_2_14 dX8_ownerOf_58 (fun x17 => ?_)
        exact W.iret (v := x17) hx hb hr (fun t ht hW => ⟨⟨x17, g, rfl, rfl, ok1 ht hG⟩, hS.F ht⟩) hS.2.2 dX8_ownerOf_61
      · skip
        refine lv_tableIn (tgt := 62) (off := 49) hx hb dX8_ownerOf_13 (by omega) (by omega) (by rw [q12]; rfl) (by decide) ?_
        refine lv_aload_n hx hb dX8_ownerOf_62 rfl (lv_at hl 0 rfl) ?_
        refine get_X3_1 hx hb hA hown hE hG t_b5 wd_2_9 dX8_ownerOf_63 (fun x18 => ?_)
        exact W.iret (v := x18) hx hb hr (fun t ht hW => ⟨⟨x18, g, rfl, rfl, ok1 ht hG⟩, hS.F ht⟩) hS.2.2 dX8_ownerOf_66
      · skip
        refine lv_tableIn (tgt := 67) (off := 54) hx hb dX8_ownerOf_13 (by omega) (by omega) (by rw [q13]; rfl) (by decide) ?_
        refine lv_aload_n hx hb dX8_ownerOf_67 rfl (lv_at hl 0 rfl) ?_
        refine get_X3_4 hx hb hA hown hE hG t_b5 wd_2_17 dX8_ownerOf_68 (fun x19 => ?_)
        exact W.iret (v := x19) hx hb hr (fun t ht hW => ⟨⟨x19, g, rfl, rfl, ok1 ht hG⟩, hS.F ht⟩) hS.2.2 dX8_ownerOf_71
      · skip
        refine lv_tableIn (tgt := 72) (off := 59) hx hb dX8_ownerOf_13 (by omega) (by omega) (by rw [q14]; rfl) (by decide) ?_
        refine lv_aload_n hx hb dX8_ownerOf_72 rfl (lv_at hl 0 rfl) ?_
        refine get_X3_5 hx hb hA hown hE hG t_b5 wd_2_19 dX8_ownerOf_73 (fun x20 h21 => ?_)
        refine ty_if_eq (tgt := 83) hx hb dX8_ownerOf_76 (by decide) (fun c22 => ?_) (fun c22 => ?_)
        · skip
          refine ty_iconst hx hb (0) dX8_ownerOf_83 (by decide) (fun x23 h24 => ?_)
          exact W.iret (v := x23) hx hb hr (fun t ht hW => ⟨⟨x23, g, rfl, rfl, ok1 ht hG⟩, hS.F ht⟩) hS.2.2 dX8_ownerOf_84
        · skip
          refine ty_iconst hx hb (1) dX8_ownerOf_79 (by decide) (fun x25 h26 => ?_)
          refine lv_goto (tgt := 84) hx hb dX8_ownerOf_80 (by decide) ?_
          exact W.iret (v := x25) hx hb hr (fun t ht hW => ⟨⟨x25, g, rfl, rfl, ok1 ht hG⟩, hS.F ht⟩) hS.2.2 dX8_ownerOf_84
      · skip
        refine lv_tableIn (tgt := 85) (off := 72) hx hb dX8_ownerOf_13 (by omega) (by omega) (by rw [q15]; rfl) (by decide) ?_
        refine lv_aload_n hx hb dX8_ownerOf_85 rfl (lv_at hl 0 rfl) ?_
        obtain ⟨fs27, fs27a, fs27l, fs27F⟩ := pin_X3 hG t_b5
        obtain ⟨r28, e_r28, t_r28⟩ : vN Γ 5 (vp_V fs27 7) := fs27F 7 (by decide)
        refine gep_X3 hx hb hA hE fs27a hown 7 (by decide) wd_2_23 rfl (va_rf r28) (vp_at fs27l (by decide) e_r28) dX8_ownerOf_86 ?_
        refine ty_ifnull (tgt := 96) hx hb dX8_ownerOf_89 (by decide) (fun h30 => ?_) (fun b29 h30 => ?_)
        · skip
          subst h30
          have hl : lv_has ls 4 [(3, .ref b5), (0, .ref h0), (1, .int p1), (2, .int p2)] := hl
          refine ty_iconst hx hb (0) dX8_ownerOf_96 (by decide) (fun x31 h32 => ?_)
          exact W.iret (v := x31) hx hb hr (fun t ht hW => ⟨⟨x31, g, rfl, rfl, ok1 ht hG⟩, hS.F ht⟩) hS.2.2 dX8_ownerOf_97
        · skip
          subst h30
          have t_b29 : ty Γ b29 5 := t_r28 b29 rfl
          have hl : lv_has ls 4 [(3, .ref b5), (0, .ref h0), (1, .int p1), (2, .int p2)] := hl
          refine ty_iconst hx hb (1) dX8_ownerOf_92 (by decide) (fun x33 h34 => ?_)
          refine lv_goto (tgt := 97) hx hb dX8_ownerOf_93 (by decide) ?_
          exact W.iret (v := x33) hx hb hr (fun t ht hW => ⟨⟨x33, g, rfl, rfl, ok1 ht hG⟩, hS.F ht⟩) hS.2.2 dX8_ownerOf_97
  · skip
    subst h6
    have hl : lv_has ls 4 [(3, .null), (0, .ref h0), (1, .int p1), (2, .int p2)] := hl
    refine ty_iconst hx hb (-1) dX8_ownerOf_10 (by decide) (fun x35 h36 => ?_)
    exact W.iret (v := x35) hx hb hr (fun t ht hW => ⟨⟨x35, g, rfl, rfl, ok1 ht hG⟩, hS.F ht⟩) hS.2.2 dX8_ownerOf_11

set_option maxHeartbeats 4000000 in
set_option maxRecDepth 100000 in
/-- WeekBank.count:  -/
theorem k_X8_count (l : Launch) (dC : Nat → ClassId) (dI : Nat → Nat → Nat) (dA : Nat → ClassId) (sz : Nat) (X : va_W) (Γ : ty_G) (hU : Un Γ) (g : gh) (h0 : Nat) (t_h0 : ty Γ h0 1) (p1 : Int32) (g2 : g 2 0 = g 34 0 ∧ 0 ≤ g 2 0 ∧ g 2 0 ≤ 10) (g3 : g 3 0 = g 35 0 ∧ 0 ≤ g 3 0 ∧ g 3 0 ≤ 200) : Met l yX8_count (.code yX8_count cX8_count 2 (Option.some Jvm.ClassFile.FieldType.int) :: AL) ({ frames := 1, cells := 0, slots := 0, locals := 23 }) (PCx dC dI dA sz X Γ g [.ref h0, .int p1]) (va_Qi (fun (r : Int32) (u : gh) => u = g) (okb dC dI dA sz X Γ) (ty_A sz)) 0 0 (ty_A sz) := by
  refine Met.ofW (cc := cX8_count) (maxL := 2) (ret := (Option.some Jvm.ClassFile.FieldType.int)) (by decide) rfl ?_
  intro p e s m args below meth c s₁ B hml hv
  obtain ⟨rfl, hG, hE⟩ := hv
  have hx := B.exec
  have hb := B.bytes
  have hr := B.returns
  have hts := atoms_spec B.pre
  have hA : ∀ w ∈ AL, w.before _ s = true := fun w h => hts w (List.mem_cons_of_mem _ h)
  have hown : s.vm.findClass RX8 = some m.cls := findClass_of_methodNamed B.named
  have hlocks := B.notSynchronized
  have hS : va_S (ty_A sz) s.heap s.heap [] := va_S.rf
  have hl := lv_entry ([.ref h0, .int p1]) (n := 2) (Nat.le_of_ble_eq_true rfl)
  rw [lg_entry_eq]
  generalize (lg_sl ([.ref h0, .int p1]) ++ List.replicate (2 - (lg_sl ([.ref h0, .int p1])).length) Slot.unset).toArray = ls at hl ⊢
  have hl : lv_has ls 2 [(0, .ref h0), (1, .int p1)] := hl
  refine lv_iload_n hx hb dX8_count_0 rfl (lv_at hl 1 rfl) ?_
  by_cases c1 : p1.toInt < 0 ∨ 9 < p1.toInt
  · skip
    refine lv_tableOut (tgt := 122) hx hb dX8_count_1 c1 (by decide) ?_
    refine ty_iconst hx hb (-1) dX8_count_122 (by decide) (fun x2 h3 => ?_)
    exact W.iret (v := x2) hx hb hr (fun t ht hW => ⟨⟨x2, g, rfl, rfl, ok1 ht hG⟩, hS.F ht⟩) hS.2.2 dX8_count_123
  · skip
    rcases (show p1.toInt = 0 ∨ p1.toInt = 1 ∨ p1.toInt = 2 ∨ p1.toInt = 3 ∨ p1.toInt = 4 ∨ p1.toInt = 5 ∨ p1.toInt = 6 ∨ p1.toInt = 7 ∨ p1.toInt = 8 ∨ p1.toInt = 9 by omega) with q4 | q5 | q6 | q7 | q8 | q9 | q10 | q11 | q12 | q13
    · skip
      refine lv_tableIn (tgt := 56) (off := 55) hx hb dX8_count_1 (by omega) (by omega) (by rw [q4]; rfl) (by decide) ?_
      refine lv_aload_n hx hb dX8_count_56 rfl (lv_at hl 0 rfl) ?_
      refine get_X8_1 hx hb hA hown hE hG t_h0 wd_1_158 dX8_count_57 (fun x14 h15 => ?_)
      exact W.iret (v := x14) hx hb hr (fun t ht hW => ⟨⟨x14, g, rfl, rfl, ok1 ht hG⟩, hS.F ht⟩) hS.2.2 dX8_count_60
    · skip
      refine lv_tableIn (tgt := 61) (off := 60) hx hb dX8_count_1 (by omega) (by omega) (by rw [q5]; rfl) (by decide) ?_
      refine lv_aload_n hx hb dX8_count_61 rfl (lv_at hl 0 rfl) ?_
      refine get_X8_3 hx hb hA hown hE hG t_h0 wd_1_160 dX8_count_62 (fun x17 h18 => ?_)
      exact W.iret (v := x17) hx hb hr (fun t ht hW => ⟨⟨x17, g, rfl, rfl, ok1 ht hG⟩, hS.F ht⟩) hS.2.2 dX8_count_65
    · skip
      refine lv_tableIn (tgt := 66) (off := 65) hx hb dX8_count_1 (by omega) (by omega) (by rw [q6]; rfl) (by decide) ?_
      refine lv_aload_n hx hb dX8_count_66 rfl (lv_at hl 0 rfl) ?_
      refine get_X8_9 hx hb hA hown hE hG t_h0 wd_1_166 dX8_count_67 (fun x20 h21 => ?_)
      exact W.iret (v := x20) hx hb hr (fun t ht hW => ⟨⟨x20, g, rfl, rfl, ok1 ht hG⟩, hS.F ht⟩) hS.2.2 dX8_count_70
    · skip
      refine lv_tableIn (tgt := 71) (off := 70) hx hb dX8_count_1 (by omega) (by omega) (by rw [q7]; rfl) (by decide) ?_
      refine lv_aload_n hx hb dX8_count_71 rfl (lv_at hl 0 rfl) ?_
      refine get_X8_10 hx hb hA hown hE hG t_h0 wd_1_167 dX8_count_72 (fun x23 h24 => ?_)
      exact W.iret (v := x23) hx hb hr (fun t ht hW => ⟨⟨x23, g, rfl, rfl, ok1 ht hG⟩, hS.F ht⟩) hS.2.2 dX8_count_75
    · skip
      refine lv_tableIn (tgt := 76) (off := 75) hx hb dX8_count_1 (by omega) (by omega) (by rw [q8]; rfl) (by decide) ?_
      refine lv_aload_n hx hb dX8_count_76 rfl (lv_at hl 0 rfl) ?_
      refine get_X8_5 hx hb hA hown hE hG t_h0 wd_1_162 dX8_count_77 (fun x26 h27 => ?_)
      exact W.iret (v := x26) hx hb hr (fun t ht hW => ⟨⟨x26, g, rfl, rfl, ok1 ht hG⟩, hS.F ht⟩) hS.2.2 dX8_count_80
    · skip
      refine lv_tableIn (tgt := 81) (off := 80) hx hb dX8_count_1 (by omega) (by omega) (by rw [q9]; rfl) (by decide) ?_
      refine lv_aload_n hx hb dX8_count_81 rfl (lv_at hl 0 rfl) ?_
      refine ty_iconst hx hb (0) dX8_count_82 (by decide) (fun x29 h30 => ?_)
      refine cI (va_runV (C := RX8) (As := [.int x29]) (rest := []) ⟨hx, hb, hml, hown, hA⟩ (k_X8_countGifts l dC dI dA sz X Γ hU g h0 t_h0 x29   (by omega)) ⟨callB_of 1 hA (al_A wd_3_8) rfl rfl rfl (hA _ wd_1_1) (hA _ wd_3_5) (by decide +kernel) ⟨Nat.le_of_ble_eq_true rfl, Nat.le_of_ble_eq_true rfl⟩, hA _ wd_3_7, hA _ ws_15⟩ ⟨bl, recv_X8 hE hG t_h0, fun U hU9 hW9 => ⟨rfl, by rw [hU9]; exact hG, hE.go hS hU9 hW9⟩⟩ rfl rfl hl.1 rfl (lv_room (Nat.le_of_ble_eq_true rfl)) dX8_count_83 ⟨Nat.zero_le _, Nat.zero_le _⟩) hS (fun x33 u31 H locs w32 hG hS => ?_)
      have eu34 := w32
      rw [eu34] at hG
      exact W.iret (v := x33) hx hb hr (fun t ht hW => ⟨⟨x33, g, rfl, rfl, ok1 ht hG⟩, hS.F ht⟩) hS.2.2 dX8_count_86
    · skip
      refine lv_tableIn (tgt := 87) (off := 86) hx hb dX8_count_1 (by omega) (by omega) (by rw [q10]; rfl) (by decide) ?_
      refine lv_aload_n hx hb dX8_count_87 rfl (lv_at hl 0 rfl) ?_
      refine ty_iconst hx hb (2) dX8_count_88 (by decide) (fun x35 h36 => ?_)
      refine cI (va_runV (C := RX8) (As := [.int x35]) (rest := []) ⟨hx, hb, hml, hown, hA⟩ (k_X8_countGifts l dC dI dA sz X Γ hU g h0 t_h0 x35   (by omega)) ⟨callB_of 1 hA (al_A wd_3_8) rfl rfl rfl (hA _ wd_1_1) (hA _ wd_3_5) (by decide +kernel) ⟨Nat.le_of_ble_eq_true rfl, Nat.le_of_ble_eq_true rfl⟩, hA _ wd_3_7, hA _ ws_15⟩ ⟨bl, recv_X8 hE hG t_h0, fun U hU9 hW9 => ⟨rfl, by rw [hU9]; exact hG, hE.go hS hU9 hW9⟩⟩ rfl rfl hl.1 rfl (lv_room (Nat.le_of_ble_eq_true rfl)) dX8_count_89 ⟨Nat.zero_le _, Nat.zero_le _⟩) hS (fun x39 u37 H locs w38 hG hS => ?_)
      have eu40 := w38
      rw [eu40] at hG
      exact W.iret (v := x39) hx hb hr (fun t ht hW => ⟨⟨x39, g, rfl, rfl, ok1 ht hG⟩, hS.F ht⟩) hS.2.2 dX8_count_92
    · skip
      refine lv_tableIn (tgt := 93) (off := 92) hx hb dX8_count_1 (by omega) (by omega) (by rw [q11]; rfl) (by decide) ?_
      refine lv_aload_n hx hb dX8_count_93 rfl (lv_at hl 0 rfl) ?_
      refine get_X8_6 hx hb hA hown hE hG t_h0 wd_1_163 dX8_count_94 (fun b41 (t_b41 : ty Γ b41 7) => ?_)
      refine get_X4_1 hx hb hA hown hE hG t_b41 wd_1_44 dX8_count_97 (fun x42 h43 => ?_)
      exact W.iret (v := x42) hx hb hr (fun t ht hW => ⟨⟨x42, g, rfl, rfl, ok1 ht hG⟩, hS.F ht⟩) hS.2.2 dX8_count_100
    · skip
      refine lv_tableIn (tgt := 101) (off := 100) hx hb dX8_count_1 (by omega) (by omega) (by rw [q12]; rfl) (by decide) ?_
      refine lv_aload_n hx hb dX8_count_101 rfl (lv_at hl 0 rfl) ?_
      refine get_X8_7 hx hb hA hown hE hG t_h0 wd_1_164 dX8_count_102 (fun b45 i46 t_b45 h47 h47' => ?_)
      refine get_X6_3 hx hb hA hown hE hG t_b45 wd_1_85 dX8_count_105 (fun x48 h49 h50 => ?_)
      refine ty_if_eq (tgt := 115) hx hb dX8_count_108 (by decide) (fun c51 => ?_) (fun c51 => ?_)
      · skip
        refine ty_iconst hx hb (0) dX8_count_115 (by decide) (fun x52 h53 => ?_)
        exact W.iret (v := x52) hx hb hr (fun t ht hW => ⟨⟨x52, g, rfl, rfl, ok1 ht hG⟩, hS.F ht⟩) hS.2.2 dX8_count_116
      · skip
        refine ty_iconst hx hb (1) dX8_count_111 (by decide) (fun x54 h55 => ?_)
        refine lv_goto (tgt := 116) hx hb dX8_count_112 (by decide) ?_
        exact W.iret (v := x54) hx hb hr (fun t ht hW => ⟨⟨x54, g, rfl, rfl, ok1 ht hG⟩, hS.F ht⟩) hS.2.2 dX8_count_116
    · skip
      refine lv_tableIn (tgt := 117) (off := 116) hx hb dX8_count_1 (by omega) (by omega) (by rw [q13]; rfl) (by decide) ?_
      refine lv_aload_n hx hb dX8_count_117 rfl (lv_at hl 0 rfl) ?_
      refine cI (va_runV (C := RX8) (As := []) (rest := []) ⟨hx, hb, hml, hown, hA⟩ (k_X8_sumPoints l dC dI dA sz X Γ hU g h0 t_h0   (by omega)) ⟨callB_of 0 hA (al_A wd_4_49) rfl rfl rfl (hA _ wd_1_1) (hA _ wd_4_46) (by decide +kernel) ⟨Nat.le_of_ble_eq_true rfl, Nat.le_of_ble_eq_true rfl⟩, hA _ wd_4_48, hA _ ws_34⟩ ⟨bl, recv_X8 hE hG t_h0, fun U hU9 hW9 => ⟨rfl, by rw [hU9]; exact hG, hE.go hS hU9 hW9⟩⟩ rfl rfl hl.1 rfl (lv_room (Nat.le_of_ble_eq_true rfl)) dX8_count_118 ⟨Nat.zero_le _, Nat.zero_le _⟩) hS (fun x58 u56 H locs w57 hG hS => ?_)
      have eu59 := w57
      rw [eu59] at hG
      exact W.iret (v := x58) hx hb hr (fun t ht hW => ⟨⟨x58, g, rfl, rfl, ok1 ht hG⟩, hS.F ht⟩) hS.2.2 dX8_count_121

set_option maxHeartbeats 4000000 in
set_option maxRecDepth 100000 in
/-- WeekBank.place:  -/
theorem k_X8_place (l : Launch) (dC : Nat → ClassId) (dI : Nat → Nat → Nat) (dA : Nat → ClassId) (sz : Nat) (X : va_W) (Γ : ty_G) (hU : Un Γ) (g : gh) (h0 : Nat) (t_h0 : ty Γ h0 1) : Met l yX8_place (.code yX8_place cX8_place 1 (Option.some Jvm.ClassFile.FieldType.int) :: AL) ({ frames := 0, cells := 0, slots := 0, locals := 0 }) (PCx dC dI dA sz X Γ g [.ref h0]) (va_Qi (fun (r : Int32) (u : gh) => u = g ∧ ((r.toInt = g 14 0))) (okb dC dI dA sz X Γ) (ty_A sz)) 0 0 (ty_A sz) := by
  refine Met.ofW (cc := cX8_place) (maxL := 1) (ret := (Option.some Jvm.ClassFile.FieldType.int)) (by decide) rfl ?_
  intro p e s m args below meth c s₁ B hml hv
  obtain ⟨rfl, hG, hE⟩ := hv
  have hx := B.exec
  have hb := B.bytes
  have hr := B.returns
  have hts := atoms_spec B.pre
  have hA : ∀ w ∈ AL, w.before _ s = true := fun w h => hts w (List.mem_cons_of_mem _ h)
  have hown : s.vm.findClass RX8 = some m.cls := findClass_of_methodNamed B.named
  have hlocks := B.notSynchronized
  have hS : va_S (ty_A sz) s.heap s.heap [] := va_S.rf
  have hl := lv_entry ([.ref h0]) (n := 1) (Nat.le_of_ble_eq_true rfl)
  rw [lg_entry_eq]
  generalize (lg_sl ([.ref h0]) ++ List.replicate (1 - (lg_sl ([.ref h0])).length) Slot.unset).toArray = ls at hl ⊢
  have hl : lv_has ls 1 [(0, .ref h0)] := hl
  refine lv_aload_n hx hb dX8_place_0 rfl (lv_at hl 0 rfl) ?_
  refine get_X8_6 hx hb hA hown hE hG t_h0 wd_1_163 dX8_place_1 (fun b1 (t_b1 : ty Γ b1 7) => ?_)
  refine get_X4_3 hx hb hA hown hE hG t_b1 wd_1_48 dX8_place_4 (fun x2 h3 => ?_)
  exact W.iret (v := x2) hx hb hr (fun t ht hW => ⟨⟨x2, g, rfl, ⟨rfl, (by omega)⟩, ok1 ht hG⟩, hS.F ht⟩) hS.2.2 dX8_place_7

set_option maxHeartbeats 4000000 in
set_option maxRecDepth 100000 in
/-- WeekBank.end:  -/
theorem k_X8_end (l : Launch) (dC : Nat → ClassId) (dI : Nat → Nat → Nat) (dA : Nat → ClassId) (sz : Nat) (X : va_W) (Γ : ty_G) (hU : Un Γ) (g : gh) (h0 : Nat) (t_h0 : ty Γ h0 1) (p1 : Int32) (g1 : 0 ≤ g 6 0 ∧ g 6 0 ≤ 300) : Met l yX8_end (.code yX8_end cX8_end 2 (Option.some Jvm.ClassFile.FieldType.int) :: AL) ({ frames := 0, cells := 0, slots := 0, locals := 0 }) (PCx dC dI dA sz X Γ g [.ref h0, .int p1]) (va_Qi (fun (r : Int32) (u : gh) => (∀ c j : Nat, c ≠ 6 → u c j = g c j) ∧ ((0 ≤ p1.toInt ∧ p1.toInt ≤ g 6 0 → r.toInt = p1.toInt ∧ u 6 0 = p1.toInt) ∧ (¬ (0 ≤ p1.toInt ∧ p1.toInt ≤ g 6 0) → r.toInt = -1 ∧ u 6 0 = g 6 0))) (okb dC dI dA sz X Γ) (ty_A sz)) 0 0 (ty_A sz) := by
  refine Met.ofW (cc := cX8_end) (maxL := 2) (ret := (Option.some Jvm.ClassFile.FieldType.int)) (by decide) rfl ?_
  intro p e s m args below meth c s₁ B hml hv
  obtain ⟨rfl, hG, hE⟩ := hv
  have hx := B.exec
  have hb := B.bytes
  have hr := B.returns
  have hts := atoms_spec B.pre
  have hA : ∀ w ∈ AL, w.before _ s = true := fun w h => hts w (List.mem_cons_of_mem _ h)
  have hown : s.vm.findClass RX8 = some m.cls := findClass_of_methodNamed B.named
  have hlocks := B.notSynchronized
  have hS : va_S (ty_A sz) s.heap s.heap [] := va_S.rf
  have hl := lv_entry ([.ref h0, .int p1]) (n := 2) (Nat.le_of_ble_eq_true rfl)
  rw [lg_entry_eq]
  generalize (lg_sl ([.ref h0, .int p1]) ++ List.replicate (2 - (lg_sl ([.ref h0, .int p1])).length) Slot.unset).toArray = ls at hl ⊢
  have hl : lv_has ls 2 [(0, .ref h0), (1, .int p1)] := hl
  refine lv_iload_n hx hb dX8_end_0 rfl (lv_at hl 1 rfl) ?_
  refine ty_if_lt (tgt := 15) hx hb dX8_end_1 (by decide) (fun c1 => ?_) (fun c1 => ?_)
  · skip
    refine ty_iconst hx hb (-1) dX8_end_15 (by decide) (fun x2 h3 => ?_)
    exact W.iret (v := x2) hx hb hr (fun t ht hW => ⟨⟨x2, g, rfl, ⟨(fun c j h6 => by rfl), (by omega)⟩, ok1 ht hG⟩, hS.F ht⟩) hS.2.2 dX8_end_16
  · skip
    refine lv_iload_n hx hb dX8_end_4 rfl (lv_at hl 1 rfl) ?_
    refine lv_aload_n hx hb dX8_end_5 rfl (lv_at hl 0 rfl) ?_
    refine get_X8_6 hx hb hA hown hE hG t_h0 wd_1_163 dX8_end_6 (fun b4 (t_b4 : ty Γ b4 7) => ?_)
    refine get_X4_1 hx hb hA hown hE hG t_b4 wd_1_44 dX8_end_9 (fun x5 h6 => ?_)
    refine ty_icmp_le (tgt := 17) hx hb dX8_end_12 (by decide) (fun c8 => ?_) (fun c8 => ?_)
    · skip
      refine lv_aload_n hx hb dX8_end_17 rfl (lv_at hl 0 rfl) ?_
      refine get_X8_6 hx hb hA hown hE hG t_h0 wd_1_163 dX8_end_18 (fun b9 (t_b9 : ty Γ b9 7) => ?_)
      refine lv_iload_n hx hb dX8_end_21 rfl (lv_at hl 1 rfl) ?_
      refine put_X4_1 hx hb hA hown hE hG hS hU t_b9 wd_1_44 dX8_end_22 (fun H locs hG hS => ?_)
      refine lv_iload_n hx hb dX8_end_25 rfl (lv_at hl 1 rfl) ?_
      have e10 : (gs g 6 0 p1.toInt) 6 0 = p1.toInt := by simp [gs]
      exact W.iret (v := p1) hx hb hr (fun t ht hW => ⟨⟨p1, (gs g 6 0 p1.toInt), rfl, ⟨(fun c j h6 => by rw [gs_c _ _ _ _ h6]), (by omega)⟩, ok1 ht hG⟩, hS.F ht⟩) hS.2.2 dX8_end_26
    · skip
      refine ty_iconst hx hb (-1) dX8_end_15 (by decide) (fun x11 h12 => ?_)
      exact W.iret (v := x11) hx hb hr (fun t ht hW => ⟨⟨x11, g, rfl, ⟨(fun c j h6 => by rfl), (by omega)⟩, ok1 ht hG⟩, hS.F ht⟩) hS.2.2 dX8_end_16

set_option maxHeartbeats 4000000 in
set_option maxRecDepth 100000 in
/-- WeekBank$Reader.addBytes:  -/
theorem k_X4_addBytes (l : Launch) (dC : Nat → ClassId) (dI : Nat → Nat → Nat) (dA : Nat → ClassId) (sz : Nat) (X : va_W) (Γ : ty_G) (hU : Un Γ) (g : gh) (h0 : Nat) (t_h0 : ty Γ h0 7) (p1 : Int32) (g1 : 0 ≤ g 6 0 ∧ g 6 0 ≤ 296) : Met l yX4_addBytes (.code yX4_addBytes cX4_addBytes 3 (Option.none : Option Jvm.ClassFile.FieldType) :: AL) ({ frames := 0, cells := 0, slots := 0, locals := 0 }) (PCx dC dI dA sz X Γ g [.ref h0, .int p1]) (va_Qv (fun (u : gh) => (∀ c j : Nat, c ≠ 6 → c ≠ 19 → u c j = g c j) ∧ ((u 6 0 = g 6 0 + 4)) ∧ (u 19 = pz_a4 (g 19) (g 6 0).toNat p1 4)) (okb dC dI dA sz X Γ) (ty_A sz)) 0 0 (ty_A sz) := by
  refine Met.ofW (cc := cX4_addBytes) (maxL := 3) (ret := (Option.none : Option Jvm.ClassFile.FieldType)) (by decide) rfl ?_
  intro p e s m args below meth c s₁ B hml hv
  obtain ⟨rfl, hG, hE⟩ := hv
  have hx := B.exec
  have hb := B.bytes
  have hr := B.returns
  have hts := atoms_spec B.pre
  have hA : ∀ w ∈ AL, w.before _ s = true := fun w h => hts w (List.mem_cons_of_mem _ h)
  have hown : s.vm.findClass RX4 = some m.cls := findClass_of_methodNamed B.named
  have hlocks := B.notSynchronized
  have hS : va_S (ty_A sz) s.heap s.heap [] := va_S.rf
  have hl := lv_entry ([.ref h0, .int p1]) (n := 3) (Nat.le_of_ble_eq_true rfl)
  rw [lg_entry_eq]
  generalize (lg_sl ([.ref h0, .int p1]) ++ List.replicate (3 - (lg_sl ([.ref h0, .int p1])).length) Slot.unset).toArray = ls at hl ⊢
  have hl : lv_has ls 3 [(0, .ref h0), (1, .int p1)] := hl
  refine ty_bipush hx hb (24) dX4_addBytes_0 (by decide) (fun x1 h2 => ?_)
  refine lv_istore_n (lv' := [(2, .int x1), (0, .ref h0), (1, .int p1)]) hx hb dX4_addBytes_2 rfl hl (by decide) rfl (fun ls hl => ?_)
  have L_3 : ∀ (n : Nat) (k : Int32) (g3 : gh) (H : Heap) (locs : List Loc) (ls : Array Slot), (k.toInt + 8 : Int) < n → -8 ≤ k.toInt ∧ k.toInt ≤ 24 → 8 * (g3 6 0 - g 6 0) = 24 - k.toInt → (∀ c j : Nat, c ≠ 6 → c ≠ 19 → g3 c j = g c j) → (g3 19 = pz_a4 (g 19) (g 6 0).toNat p1 ((24 - k.toInt) / 8).toNat) → ty_ok (dC, dI) vwCl Γ (TP dA Γ g3) sz X H → va_S (ty_A sz) s.heap H locs → lv_has ls 3 [(2, .int k), (0, .ref h0), (1, .int p1)] → W p l e (headSpec (.code yX4_addBytes cX4_addBytes 3 (Option.none : Option Jvm.ClassFile.FieldType) :: AL) ({ frames := 0, cells := 0, slots := 0, locals := 0 })).room s m ([.ref h0, .int p1] : List Value).toArray below meth c H locs 0 0 (MQ below (va_Qv (fun (u : gh) => (∀ c j : Nat, c ≠ 6 → c ≠ 19 → u c j = g c j) ∧ ((u 6 0 = g 6 0 + 4)) ∧ (u 19 = pz_a4 (g 19) (g 6 0).toNat p1 4)) (okb dC dI dA sz X Γ) (ty_A sz)) ([.ref h0, .int p1] : List Value).toArray s 0 0 (ty_A sz)) (F0 m 3 ls []) := by
    intro n
    induction n with
    | zero => intro k g3 H locs ls hm hi0 hi1 hf4 hq0 hG hS hl; exfalso; omega
    | succ n ih_3 =>
      intro k g3 H locs ls hm hi0 hi1 hf4 hq0 hG hS hl
      refine lv_iload_n hx hb dX4_addBytes_3 rfl (lv_at hl 0 rfl) ?_
      refine ty_if_lt (tgt := 49) hx hb dX4_addBytes_4 (by decide) (fun c5 => ?_) (fun c5 => ?_)
      · skip
        exact W.vret hx hb hr (fun t ht hW => ⟨⟨g3, rfl, ⟨(fun c j h6 h19 => by rw [hf4 c j h6 h19]), (by omega), (by have h9 := hq0; rw [show ((24 - k.toInt) / 8).toNat = 4 by omega] at h9; exact h9)⟩, ok1 ht hG⟩, hS.F ht⟩) hS.2.2 dX4_addBytes_49
      · skip
        refine lv_aload_n hx hb dX4_addBytes_7 rfl (lv_at hl 1 rfl) ?_
        refine get_X4_1 hx hb hA hown hE hG t_h0 wd_1_43 dX4_addBytes_8 (fun x6 h7 => ?_)
        refine ty_sipush hx hb (300) dX4_addBytes_11 (by decide) (fun x9 h10 => ?_)
        refine ty_icmp_ge (tgt := 43) hx hb dX4_addBytes_14 (by decide) (fun c11 => ?_) (fun c11 => ?_)
        · exfalso; omega
        · skip
          refine lv_aload_n hx hb dX4_addBytes_17 rfl (lv_at hl 1 rfl) ?_
          refine get_X4_0 hx hb hA hown hE hG t_h0 wd_1_42 dX4_addBytes_18 (fun b12 (t_b12 : ty Γ b12 18) => ?_)
          refine lv_aload_n hx hb dX4_addBytes_21 rfl (lv_at hl 1 rfl) ?_
          refine get_X4_1 hx hb hA hown hE hG t_h0 wd_1_43 dX4_addBytes_22 (fun x13 h14 => ?_)
          refine lv_iload_n hx hb dX4_addBytes_25 rfl (lv_at hl 2 rfl) ?_
          refine lv_iload_n hx hb dX4_addBytes_26 rfl (lv_at hl 0 rfl) ?_
          refine lv_iushr hx hb dX4_addBytes_27 rfl ?_
          refine lv_topi (fun x16 h17 => ?_)
          refine ty_sipush hx hb (255) dX4_addBytes_28 (by decide) (fun x18 h19 => ?_)
          refine ty_iand hx hb dX4_addBytes_31 (fun x20 h21 => ?_)
          refine ast_18 hx hb hE hG hS hU t_b12 (by omega) dX4_addBytes_32 (fun H locs hG hS => ?_)
          refine lv_aload_n hx hb dX4_addBytes_33 rfl (lv_at hl 1 rfl) ?_
          refine lv_dup hx hb dX4_addBytes_34 rfl ?_
          refine get_X4_1 hx hb hA hown hE hG t_h0 wd_1_43 dX4_addBytes_35 (fun x22 h23 => ?_)
          replace h23 : x22.toInt = g3 6 0 := by rw [h23]; simp [gs]
          refine ty_iconst hx hb (1) dX4_addBytes_38 (by decide) (fun x25 h26 => ?_)
          refine ty_iadd hx hb dX4_addBytes_39 (fun x27 h28 => ?_)
          try have h29 : x27.toInt = x22.toInt + x25.toInt := ty_add h28 (by omega) (by omega)
          refine put_X4_1 hx hb hA hown hE hG hS hU t_h0 wd_1_43 dX4_addBytes_40 (fun H locs hG hS => ?_)
          obtain ⟨x30, h31⟩ : ∃ y : Int32, y = k + Int32.ofInt (-8) := ⟨_, rfl⟩
          try have h32 : x30.toInt = k.toInt + (-8) := ty_inc h31 (by decide) (by omega) (by omega)
          refine lv_iinc (v := x30) (lv' := [(2, .int x30), (0, .ref h0), (1, .int p1)]) hx hb dX4_addBytes_43 hl (k := 0) rfl h31.symm (by decide) rfl (fun ls hl => ?_)
          refine lv_goto (tgt := 3) hx hb dX4_addBytes_46 (by decide) ?_
          have e33 : (gs (gs g3 19 (x13.toInt.toNat) x20.toInt) 6 0 x27.toInt) 6 0 = x27.toInt := by simp [gs]
          exact ih_3 x30 (gs (gs g3 19 (x13.toInt.toNat) x20.toInt) 6 0 x27.toInt) _ _ ls (by omega) (by omega) (by omega) (fun c j h6 h19 => by rw [gs_c _ _ _ _ h6, gs_c _ _ _ _ h19, hf4 c j h6 h19]) (by have e9 : (gs (gs g3 19 (x13.toInt.toNat) x20.toInt) 6 0 x27.toInt) 19 = pz_up (g3 19) (x13.toInt.toNat) x20.toInt := (funext fun j => by rw [gs_c _ _ _ _ (by decide)]).trans pz_gs; rw [e9, hq0, show ((24 - x30.toInt) / 8).toNat = ((24 - k.toInt) / 8).toNat + 1 by omega]; show _ = pz_up (pz_a4 (g 19) (g 6 0).toNat p1 ((24 - k.toInt) / 8).toNat) ((g 6 0).toNat + ((24 - k.toInt) / 8).toNat) (pz_by p1 ((24 - k.toInt) / 8).toNat); rw [show (x13.toInt.toNat) = (g 6 0).toNat + ((24 - k.toInt) / 8).toNat by omega, pz_by_c (m := ((24 - k.toInt) / 8).toNat) (by omega) (by omega) h17 (by omega) h21]) hG hS (lv_sub hl [0, 1, 2] rfl)
  exact L_3 ((x1.toInt + 8) + 1).toNat x1 g _ _ ls (by omega) (by omega) (by omega) (fun c j _ _ => rfl) (by rw [show ((24 - x1.toInt) / 8).toNat = 0 by omega]; rfl) hG hS (lv_sub hl [0, 1, 2] rfl)

set_option maxHeartbeats 4000000 in
set_option maxRecDepth 100000 in
/-- WeekBank.feed:  -/
theorem k_X8_feed (l : Launch) (dC : Nat → ClassId) (dI : Nat → Nat → Nat) (dA : Nat → ClassId) (sz : Nat) (X : va_W) (Γ : ty_G) (hU : Un Γ) (g : gh) (h0 : Nat) (t_h0 : ty Γ h0 1) (p1 : Int32) (p2 : Int32) (p3 : Int32) (p4 : Int32) (p5 : Int32) (g1 : 0 ≤ g 6 0 ∧ g 6 0 ≤ 300) : Met l yX8_feed (.code yX8_feed cX8_feed 6 (Option.some Jvm.ClassFile.FieldType.int) :: AL) ({ frames := 1, cells := 0, slots := 0, locals := 22 }) (PCx dC dI dA sz X Γ g [.ref h0, .int p1, .int p2, .int p3, .int p4, .int p5]) (va_Qi (fun (r : Int32) (u : gh) => (∀ c j : Nat, c ≠ 6 → c ≠ 19 → u c j = g c j) ∧ ((g 6 0 ≤ 280 → r.toInt = g 6 0 + 20 ∧ u 6 0 = g 6 0 + 20) ∧ (280 < g 6 0 → r.toInt = -1 ∧ u 6 0 = g 6 0)) ∧ ((g 6 0 ≤ 280 → u 19 = pz_fk (g 19) (g 6 0).toNat p1 p2 p3 p4 p5 20) ∧ (280 < g 6 0 → u 19 = g 19))) (okb dC dI dA sz X Γ) (ty_A sz)) 0 0 (ty_A sz) := by
  refine Met.ofW (cc := cX8_feed) (maxL := 6) (ret := (Option.some Jvm.ClassFile.FieldType.int)) (by decide) rfl ?_
  intro p e s m args below meth c s₁ B hml hv
  obtain ⟨rfl, hG, hE⟩ := hv
  have hx := B.exec
  have hb := B.bytes
  have hr := B.returns
  have hts := atoms_spec B.pre
  have hA : ∀ w ∈ AL, w.before _ s = true := fun w h => hts w (List.mem_cons_of_mem _ h)
  have hown : s.vm.findClass RX8 = some m.cls := findClass_of_methodNamed B.named
  have hlocks := B.notSynchronized
  have hS : va_S (ty_A sz) s.heap s.heap [] := va_S.rf
  have hl := lv_entry ([.ref h0, .int p1, .int p2, .int p3, .int p4, .int p5]) (n := 6) (Nat.le_of_ble_eq_true rfl)
  rw [lg_entry_eq]
  generalize (lg_sl ([.ref h0, .int p1, .int p2, .int p3, .int p4, .int p5]) ++ List.replicate (6 - (lg_sl ([.ref h0, .int p1, .int p2, .int p3, .int p4, .int p5])).length) Slot.unset).toArray = ls at hl ⊢
  have hl : lv_has ls 6 [(0, .ref h0), (1, .int p1), (2, .int p2), (3, .int p3), (4, .int p4), (5, .int p5)] := hl
  refine lv_aload_n hx hb dX8_feed_0 rfl (lv_at hl 0 rfl) ?_
  refine get_X8_6 hx hb hA hown hE hG t_h0 wd_1_163 dX8_feed_1 (fun b1 (t_b1 : ty Γ b1 7) => ?_)
  refine get_X4_1 hx hb hA hown hE hG t_b1 wd_1_44 dX8_feed_4 (fun x2 h3 => ?_)
  refine ty_bipush hx hb (20) dX8_feed_7 (by decide) (fun x5 h6 => ?_)
  refine ty_iadd hx hb dX8_feed_9 (fun x7 h8 => ?_)
  try have h9 : x7.toInt = x2.toInt + x5.toInt := ty_add h8 (by omega) (by omega)
  refine ty_sipush hx hb (300) dX8_feed_10 (by decide) (fun x10 h11 => ?_)
  refine ty_icmp_le (tgt := 18) hx hb dX8_feed_13 (by decide) (fun c12 => ?_) (fun c12 => ?_)
  · skip
    refine lv_aload_n hx hb dX8_feed_18 rfl (lv_at hl 0 rfl) ?_
    refine get_X8_6 hx hb hA hown hE hG t_h0 wd_1_163 dX8_feed_19 (fun b13 (t_b13 : ty Γ b13 7) => ?_)
    refine lv_iload_n hx hb dX8_feed_22 rfl (lv_at hl 1 rfl) ?_
    refine cV (va_runV (C := RX4) (As := [.int p1]) (rest := []) ⟨hx, hb, hml, hown, hA⟩ (k_X4_addBytes l dC dI dA sz X Γ hU g b13 t_b13 p1   (by omega)) ⟨callB_of 1 hA (al_A wd_2_80) rfl rfl rfl (hA _ wd_1_2) (hA _ wd_2_77) (by decide +kernel) ⟨Nat.le_of_ble_eq_true rfl, Nat.le_of_ble_eq_true rfl⟩, hA _ wd_2_78, hA _ wd_2_79⟩ ⟨bl, recv_X4 hE hG t_b13, fun U hU9 hW9 => ⟨rfl, by rw [hU9]; exact hG, hE.go hS hU9 hW9⟩⟩ rfl rfl hl.1 rfl (lv_room (Nat.le_of_ble_eq_true rfl)) dX8_feed_23 ⟨Nat.zero_le _, Nat.zero_le _⟩) hS (fun u14 H locs w15 hG hS => ?_)
    obtain ⟨hf17, w15, hq16⟩ := w15
    refine lv_aload_n hx hb dX8_feed_26 rfl (lv_at hl 0 rfl) ?_
    refine get_X8_6 hx hb hA hown hE hG t_h0 wd_1_163 dX8_feed_27 (fun b18 (t_b18 : ty Γ b18 7) => ?_)
    refine lv_iload_n hx hb dX8_feed_30 rfl (lv_at hl 2 rfl) ?_
    refine cV (va_runV (C := RX4) (As := [.int p2]) (rest := []) ⟨hx, hb, hml, hown, hA⟩ (k_X4_addBytes l dC dI dA sz X Γ hU u14 b18 t_b18 p2   (by omega)) ⟨callB_of 1 hA (al_A wd_2_80) rfl rfl rfl (hA _ wd_1_2) (hA _ wd_2_77) (by decide +kernel) ⟨Nat.le_of_ble_eq_true rfl, Nat.le_of_ble_eq_true rfl⟩, hA _ wd_2_78, hA _ wd_2_79⟩ ⟨bl, recv_X4 hE hG t_b18, fun U hU9 hW9 => ⟨rfl, by rw [hU9]; exact hG, hE.go hS hU9 hW9⟩⟩ rfl rfl hl.1 rfl (lv_room (Nat.le_of_ble_eq_true rfl)) dX8_feed_31 ⟨Nat.zero_le _, Nat.zero_le _⟩) hS (fun u19 H locs w20 hG hS => ?_)
    obtain ⟨hf22, w20, hq21⟩ := w20
    refine lv_aload_n hx hb dX8_feed_34 rfl (lv_at hl 0 rfl) ?_
    refine get_X8_6 hx hb hA hown hE hG t_h0 wd_1_163 dX8_feed_35 (fun b23 (t_b23 : ty Γ b23 7) => ?_)
    refine lv_iload_n hx hb dX8_feed_38 rfl (lv_at hl 3 rfl) ?_
    refine cV (va_runV (C := RX4) (As := [.int p3]) (rest := []) ⟨hx, hb, hml, hown, hA⟩ (k_X4_addBytes l dC dI dA sz X Γ hU u19 b23 t_b23 p3   (by omega)) ⟨callB_of 1 hA (al_A wd_2_80) rfl rfl rfl (hA _ wd_1_2) (hA _ wd_2_77) (by decide +kernel) ⟨Nat.le_of_ble_eq_true rfl, Nat.le_of_ble_eq_true rfl⟩, hA _ wd_2_78, hA _ wd_2_79⟩ ⟨bl, recv_X4 hE hG t_b23, fun U hU9 hW9 => ⟨rfl, by rw [hU9]; exact hG, hE.go hS hU9 hW9⟩⟩ rfl rfl hl.1 rfl (lv_room (Nat.le_of_ble_eq_true rfl)) dX8_feed_39 ⟨Nat.zero_le _, Nat.zero_le _⟩) hS (fun u24 H locs w25 hG hS => ?_)
    obtain ⟨hf27, w25, hq26⟩ := w25
    refine lv_aload_n hx hb dX8_feed_42 rfl (lv_at hl 0 rfl) ?_
    refine get_X8_6 hx hb hA hown hE hG t_h0 wd_1_163 dX8_feed_43 (fun b28 (t_b28 : ty Γ b28 7) => ?_)
    refine lv_iload hx hb dX8_feed_46 (lv_at hl 4 rfl) ?_
    refine cV (va_runV (C := RX4) (As := [.int p4]) (rest := []) ⟨hx, hb, hml, hown, hA⟩ (k_X4_addBytes l dC dI dA sz X Γ hU u24 b28 t_b28 p4   (by omega)) ⟨callB_of 1 hA (al_A wd_2_80) rfl rfl rfl (hA _ wd_1_2) (hA _ wd_2_77) (by decide +kernel) ⟨Nat.le_of_ble_eq_true rfl, Nat.le_of_ble_eq_true rfl⟩, hA _ wd_2_78, hA _ wd_2_79⟩ ⟨bl, recv_X4 hE hG t_b28, fun U hU9 hW9 => ⟨rfl, by rw [hU9]; exact hG, hE.go hS hU9 hW9⟩⟩ rfl rfl hl.1 rfl (lv_room (Nat.le_of_ble_eq_true rfl)) dX8_feed_48 ⟨Nat.zero_le _, Nat.zero_le _⟩) hS (fun u29 H locs w30 hG hS => ?_)
    obtain ⟨hf32, w30, hq31⟩ := w30
    refine lv_aload_n hx hb dX8_feed_51 rfl (lv_at hl 0 rfl) ?_
    refine get_X8_6 hx hb hA hown hE hG t_h0 wd_1_163 dX8_feed_52 (fun b33 (t_b33 : ty Γ b33 7) => ?_)
    refine lv_iload hx hb dX8_feed_55 (lv_at hl 5 rfl) ?_
    refine cV (va_runV (C := RX4) (As := [.int p5]) (rest := []) ⟨hx, hb, hml, hown, hA⟩ (k_X4_addBytes l dC dI dA sz X Γ hU u29 b33 t_b33 p5   (by omega)) ⟨callB_of 1 hA (al_A wd_2_80) rfl rfl rfl (hA _ wd_1_2) (hA _ wd_2_77) (by decide +kernel) ⟨Nat.le_of_ble_eq_true rfl, Nat.le_of_ble_eq_true rfl⟩, hA _ wd_2_78, hA _ wd_2_79⟩ ⟨bl, recv_X4 hE hG t_b33, fun U hU9 hW9 => ⟨rfl, by rw [hU9]; exact hG, hE.go hS hU9 hW9⟩⟩ rfl rfl hl.1 rfl (lv_room (Nat.le_of_ble_eq_true rfl)) dX8_feed_57 ⟨Nat.zero_le _, Nat.zero_le _⟩) hS (fun u34 H locs w35 hG hS => ?_)
    obtain ⟨hf37, w35, hq36⟩ := w35
    refine lv_aload_n hx hb dX8_feed_60 rfl (lv_at hl 0 rfl) ?_
    refine get_X8_6 hx hb hA hown hE hG t_h0 wd_1_163 dX8_feed_61 (fun b38 (t_b38 : ty Γ b38 7) => ?_)
    refine get_X4_1 hx hb hA hown hE hG t_b38 wd_1_44 dX8_feed_64 (fun x39 h40 => ?_)
    exact W.iret (v := x39) hx hb hr (fun t ht hW => ⟨⟨x39, u34, rfl, ⟨(fun c j h6 h19 => by rw [hf37 c j h6 h19, hf32 c j h6 h19, hf27 c j h6 h19, hf22 c j h6 h19, hf17 c j h6 h19]), (by omega), (⟨fun q => by rw [hq36, hq31, hq26, hq21, hq16, show (u29 6 0).toNat = (g 6 0).toNat + 16 by omega, show (u24 6 0).toNat = (g 6 0).toNat + 12 by omega, show (u19 6 0).toNat = (g 6 0).toNat + 8 by omega, show (u14 6 0).toNat = (g 6 0).toNat + 4 by omega]; exact pz_fk20 _ _ _ _ _ _ _, fun q => absurd q (by omega)⟩)⟩, ok1 ht hG⟩, hS.F ht⟩) hS.2.2 dX8_feed_67
  · skip
    refine ty_iconst hx hb (-1) dX8_feed_16 (by decide) (fun x42 h43 => ?_)
    exact W.iret (v := x42) hx hb hr (fun t ht hW => ⟨⟨x42, g, rfl, ⟨(fun c j h6 h19 => by rfl), (by omega), (⟨fun q => absurd q (by omega), fun _ => rfl⟩)⟩, ok1 ht hG⟩, hS.F ht⟩) hS.2.2 dX8_feed_17
