set_option maxHeartbeats 4000000 in
set_option maxRecDepth 100000 in
/-- WeekBank.own:  -/
theorem k_X8_own (l : Launch) (dC : Nat → ClassId) (dI : Nat → Nat → Nat) (dA : Nat → ClassId) (sz : Nat) (X : va_W) (Γ : ty_G) (hU : Un Γ) (g : gh) (h0 : Nat) (t_h0 : ty Γ h0 1) (p1 : Int32) (p2 : Int32) (p3 : Int32) (g1 : g 1 0 = g 33 0 ∧ 0 ≤ g 1 0 ∧ g 1 0 ≤ 6) (g2 : g 2 0 = g 34 0 ∧ 0 ≤ g 2 0 ∧ g 2 0 ≤ 10) : Met l yX8_own (.code yX8_own cX8_own 7 (Option.some Jvm.ClassFile.FieldType.boolean) :: AL) ({ frames := 2, cells := 0, slots := 0, locals := 43 }) (PCx dC dI dA sz X Γ g [.ref h0, .int p1, .int p2, .int p3]) (va_Qi (fun (r : Int32) (u : gh) => (∀ c j : Nat, c ≠ 43 → c ≠ 53 → u c j = g c j) ∧ ((ok_own (g 1 0) (g 2 0) (g 54) (g 45 (53 * p1.toInt.toNat + p2.toInt.toNat)) (g 65) p1.toInt p2.toInt p3.toInt → r.toInt = 1 ∧ u 43 = pz_up (g 43) (53 * p1.toInt.toNat + p2.toInt.toNat) p3.toInt ∧ u 53 = pa_w (g 53) ((g 43) (53 * p1.toInt.toNat + p2.toInt.toNat)) p3.toInt) ∧ (¬ (ok_own (g 1 0) (g 2 0) (g 54) (g 45 (53 * p1.toInt.toNat + p2.toInt.toNat)) (g 65) p1.toInt p2.toInt p3.toInt) → r.toInt = 0 ∧ u 43 = g 43 ∧ u 53 = g 53))) (okb dC dI dA sz X Γ) (ty_A sz)) 0 0 (ty_A sz) := by
  refine Met.ofW (cc := cX8_own) (maxL := 7) (ret := (Option.some Jvm.ClassFile.FieldType.boolean)) (by decide) rfl ?_
  intro p e s m args below meth c s₁ B hml hv
  obtain ⟨rfl, hG, hE⟩ := hv
  have hx := B.exec
  have hb := B.bytes
  have hr := B.returns
  have hts := atoms_spec B.pre
  have hA : ∀ w ∈ AL, w.before _ s = true := fun w h => hts w (List.mem_cons_of_mem _ h)
  have hown : s.vm.findClass RX8 = some m.cls := findClass_of_methodNamed B.named
  have hlocks := B.notSynchronized
  have hS : va_S (ty_A sz) s.heap s.heap [] := va_S.rf
  have hl := lv_entry ([.ref h0, .int p1, .int p2, .int p3]) (n := 7) (Nat.le_of_ble_eq_true rfl)
  rw [lg_entry_eq]
  generalize (lg_sl ([.ref h0, .int p1, .int p2, .int p3]) ++ List.replicate (7 - (lg_sl ([.ref h0, .int p1, .int p2, .int p3])).length) Slot.unset).toArray = ls at hl ⊢
  have hl : lv_has ls 7 [(0, .ref h0), (1, .int p1), (2, .int p2), (3, .int p3)] := hl
  refine lv_aload_n hx hb dX8_own_0 rfl (lv_at hl 0 rfl) ?_
  refine lv_iload_n hx hb dX8_own_1 rfl (lv_at hl 1 rfl) ?_
  refine cQ (va_runV (C := RX8) (As := [.int p1]) (rest := []) ⟨hx, hb, hml, hown, hA⟩ (k_X8_flatAt l dC dI dA sz X Γ hU g h0 t_h0 p1   (by omega)) ⟨callB_of 1 hA (al_A wd_2_48) rfl rfl rfl (hA _ wd_1_1) (hA _ wd_2_45) (by decide +kernel) ⟨Nat.le_of_ble_eq_true rfl, Nat.le_of_ble_eq_true rfl⟩, hA _ wd_2_47, hA _ ws_0⟩ ⟨bl, recv_X8 hE hG t_h0, fun U hU9 hW9 => ⟨rfl, by rw [hU9]; exact hG, hE.go hS hU9 hW9⟩⟩ rfl rfl hl.1 rfl (lv_room (Nat.le_of_ble_eq_true rfl)) dX8_own_2 ⟨Nat.zero_le _, Nat.zero_le _⟩) hS (fun r3 u1 H locs w2 hG hS => ?_)
  obtain ⟨z_r3, n_r3, t_r3, w2⟩ := w2
  obtain ⟨eu4, w2⟩ := w2
  rw [eu4] at hG
  rcases pz_or w2 with w2 | w2
  · skip
    obtain ⟨b5, h6⟩ := Option.ne_none_iff_exists'.mp (fun h9 => absurd (n_r3 h9) (by omega))
    obtain ⟨t_b5, p_b5⟩ := t_r3 b5 h6
    clear t_r3 n_r3
    subst h6
    replace t_b5 : Γ b5 = (2, (p1.toInt).toNat) := by rw [t_b5, show z_r3 = p1.toInt by omega]
    replace p_b5 : 0 ≤ p1.toInt := by omega
    refine lv_astore (lv' := [(4, .ref b5), (0, .ref h0), (1, .int p1), (2, .int p2), (3, .int p3)]) hx hb dX8_own_5 hl (by decide) rfl (fun ls hl => ?_)
    refine lv_aload_n hx hb dX8_own_7 rfl (lv_at hl 1 rfl) ?_
    refine lv_iload_n hx hb dX8_own_8 rfl (lv_at hl 4 rfl) ?_
    refine cQ (va_runV (C := RX8) (As := [.int p3]) (rest := []) ⟨hx, hb, hml, hown, hA⟩ (k_X8_livingOwnerAt l dC dI dA sz X Γ hU g h0 t_h0 p3   (by omega)) ⟨callB_of 1 hA (al_A wd_2_52) rfl rfl rfl (hA _ wd_1_1) (hA _ wd_2_49) (by decide +kernel) ⟨Nat.le_of_ble_eq_true rfl, Nat.le_of_ble_eq_true rfl⟩, hA _ wd_2_51, hA _ ws_1⟩ ⟨bl, recv_X8 hE hG t_h0, fun U hU9 hW9 => ⟨rfl, by rw [hU9]; exact hG, hE.go hS hU9 hW9⟩⟩ rfl rfl hl.1 rfl (lv_room (Nat.le_of_ble_eq_true rfl)) dX8_own_9 ⟨Nat.zero_le _, Nat.zero_le _⟩) hS (fun r9 u7 H locs w8 hG hS => ?_)
    obtain ⟨z_r9, n_r9, t_r9, w8⟩ := w8
    obtain ⟨eu10, w8⟩ := w8
    rw [eu10] at hG
    rcases pz_or w8 with w8 | w8
    · skip
      obtain ⟨b11, h12⟩ := Option.ne_none_iff_exists'.mp (fun h9 => absurd (n_r9 h9) (by omega))
      obtain ⟨t_b11, p_b11⟩ := t_r9 b11 h12
      clear t_r9 n_r9
      subst h12
      replace t_b11 : Γ b11 = (3, (p3.toInt).toNat) := by rw [t_b11, show z_r9 = p3.toInt by omega]
      replace p_b11 : 0 ≤ p3.toInt := by omega
      refine lv_astore (lv' := [(5, .ref b11), (4, .ref b5), (0, .ref h0), (1, .int p1), (2, .int p2), (3, .int p3)]) hx hb dX8_own_12 hl (by decide) rfl (fun ls hl => ?_)
      refine lv_aload hx hb dX8_own_14 (lv_at hl 1 rfl) ?_
      refine lv_ifnull hx hb dX8_own_16 ?_
      refine lv_iload_n hx hb dX8_own_19 rfl (lv_at hl 4 rfl) ?_
      refine cI (va_runS (As := [.int p2]) (rest := []) ⟨hx, hb, hml, hown, hA⟩ (k_X8_isWeek l dC dI dA sz X Γ hU g p2   ) ⟨callB_of 1 hA (al_A wd_2_59) rfl rfl rfl (hA _ wd_1_1) (hA _ wd_2_57) (by decide +kernel) ⟨Nat.le_of_ble_eq_true rfl, Nat.le_of_ble_eq_true rfl⟩, hA _ wd_2_58⟩ ⟨bl, fun U hU9 hW9 => ⟨rfl, by rw [hU9]; exact hG, hE.go hS hU9 hW9⟩⟩ rfl rfl hl.1 rfl (lv_room (Nat.le_of_ble_eq_true rfl)) dX8_own_20 ⟨Nat.zero_le _, Nat.zero_le _⟩) hS (fun x15 u13 H locs w14 hG hS => ?_)
      obtain ⟨eu16, w14⟩ := w14
      rw [eu16] at hG
      rcases pz_or w14 with w14 | w14
      · skip
        refine ty_if_eq (tgt := 36) hx hb dX8_own_23 (by decide) (fun c17 => ?_) (fun c17 => ?_)
        · exfalso; omega
        · skip
          refine lv_aload hx hb dX8_own_26 (lv_at hl 0 rfl) ?_
          refine lv_ifnonnull (tgt := 38) hx hb dX8_own_28 (by decide) ?_
          refine lv_aload hx hb dX8_own_38 (lv_at hl 1 rfl) ?_
          refine get_X1_5 hx hb hA hown hE hG t_b5 wd_1_223 dX8_own_40 (fun b18 t_b18 => ?_)
          refine lv_iload_n hx hb dX8_own_43 rfl (lv_at hl 4 rfl) ?_
          refine ald_15 hx hb hE hG t_b18 (by omega) dX8_own_44 (fun j20 r19 h21 n_r19 t_r19 => ?_)
          obtain rfl : j20 = p2.toInt.toNat := by omega
          clear h21
          refine ty_astoreq (lv' := [(6, va_rf r19), (5, .ref b11), (4, .ref b5), (0, .ref h0), (1, .int p1), (2, .int p2), (3, .int p3)]) hx hb dX8_own_45 hl (by decide) rfl (fun ls hl => ?_)
          refine ty_aloadq hx hb dX8_own_47 (lv_at hl 0 rfl) ?_
          refine ty_ifnull (tgt := 62) hx hb dX8_own_49 (by decide) (fun h24 => ?_) (fun b23 h24 => ?_)
          · skip
            have hz25 := n_r19 h24
            subst h24
            have hl : lv_has ls 7 [(6, .null), (5, .ref b11), (4, .ref b5), (0, .ref h0), (1, .int p1), (2, .int p2), (3, .int p3)] := hl
            refine lv_aload hx hb dX8_own_62 (lv_at hl 2 rfl) ?_
            refine lv_iload_n hx hb dX8_own_64 rfl (lv_at hl 5 rfl) ?_
            refine lv_aload hx hb dX8_own_65 (lv_at hl 1 rfl) ?_
            refine cV (va_runV (C := RX1) (As := [.int p2, .ref b11]) (rest := []) ⟨hx, hb, hml, hown, hA⟩ (k_X1_passTo l dC dI dA sz X Γ hU g b5 (p1.toInt).toNat t_b5 p2 (some b11) ((p3.toInt)) (rq_z t_b11 p_b11).1 (rq_z t_b11 p_b11).2   (by omega)) ⟨callB_of 2 hA (al_A wd_2_71) rfl rfl rfl (hA _ wd_1_8) (hA _ wd_2_68) (by decide +kernel) ⟨Nat.le_of_ble_eq_true rfl, Nat.le_of_ble_eq_true rfl⟩, hA _ wd_2_69, hA _ wd_2_70⟩ ⟨bl, recv_X1 hE hG (by rw [t_b5]), fun U hU9 hW9 => ⟨rfl, by rw [hU9]; exact hG, hE.go hS hU9 hW9⟩⟩ rfl rfl hl.1 rfl (lv_room (Nat.le_of_ble_eq_true rfl)) dX8_own_67 ⟨Nat.zero_le _, Nat.zero_le _⟩) hS (fun u26 H locs w27 hG hS => ?_)
            obtain ⟨hf30, hq28, hq29⟩ := w27
            refine ty_iconst hx hb (1) dX8_own_70 (by decide) (fun x31 h32 => ?_)
            exact W.zret (v := x31) hx hb hr (ty_nb (by omega)).1 (fun t ht hW => ⟨⟨x31, u26, rfl, ⟨(fun c j h43 h53 => by rw [hf30 c j h43 h53]), (⟨fun _ => ⟨(by omega), (by rw [hq28] <;> exact pz_upc (by omega) (by omega)), (by rw [hq29] <;> exact congrArg (pa_w _ _) (by omega))⟩, fun q => absurd (by unfold ok_own; omega) q⟩)⟩, ok1 ht hG⟩, hS.F ht⟩) hS.2.2 dX8_own_71
          · skip
            obtain ⟨t_b23, p_b23⟩ := t_r19 b23 h24
            clear t_r19 n_r19
            subst h24
            have hl : lv_has ls 7 [(6, .ref b23), (5, .ref b11), (4, .ref b5), (0, .ref h0), (1, .int p1), (2, .int p2), (3, .int p3)] := hl
            refine lv_aload hx hb dX8_own_52 (lv_at hl 0 rfl) ?_
            refine cI (va_runV (C := RX2) (As := []) (rest := []) ⟨hx, hb, hml, hown, hA⟩ (k_X2_isOut l dC dI dA sz X Γ hU g b23 ((g 45 (53 * (p1.toInt).toNat + p2.toInt.toNat))).toNat t_b23   ) ⟨callB_of 0 hA (al_A wd_2_63) rfl rfl rfl (hA _ wd_1_15) (hA _ wd_2_60) (by decide +kernel) ⟨Nat.le_of_ble_eq_true rfl, Nat.le_of_ble_eq_true rfl⟩, hA _ wd_2_61, hA _ wd_2_62⟩ ⟨bl, recv_X2 hE hG (by rw [t_b23]), fun U hU9 hW9 => ⟨rfl, by rw [hU9]; exact hG, hE.go hS hU9 hW9⟩⟩ rfl rfl hl.1 rfl (lv_room (Nat.le_of_ble_eq_true rfl)) dX8_own_54 ⟨Nat.zero_le _, Nat.zero_le _⟩) hS (fun x35 u33 H locs w34 hG hS => ?_)
            obtain ⟨eu36, w34⟩ := w34
            rw [eu36] at hG
            rcases pz_or w34 with w34 | w34
            · skip
              refine ty_if_eq (tgt := 62) hx hb dX8_own_57 (by decide) (fun c37 => ?_) (fun c37 => ?_)
              · exfalso; omega
              · skip
                refine ty_iconst hx hb (0) dX8_own_60 (by decide) (fun x38 h39 => ?_)
                exact W.zret (v := x38) hx hb hr (ty_nb (by omega)).1 (fun t ht hW => ⟨⟨x38, g, rfl, ⟨(fun c j h43 h53 => by rfl), (⟨fun q => absurd q (by unfold ok_own; omega), fun _ => ⟨(by omega), (rfl), (rfl)⟩⟩)⟩, ok1 ht hG⟩, hS.F ht⟩) hS.2.2 dX8_own_61
            · skip
              refine ty_if_eq (tgt := 62) hx hb dX8_own_57 (by decide) (fun c40 => ?_) (fun c40 => ?_)
              · skip
                refine lv_aload hx hb dX8_own_62 (lv_at hl 2 rfl) ?_
                refine lv_iload_n hx hb dX8_own_64 rfl (lv_at hl 5 rfl) ?_
                refine lv_aload hx hb dX8_own_65 (lv_at hl 1 rfl) ?_
                refine cV (va_runV (C := RX1) (As := [.int p2, .ref b11]) (rest := []) ⟨hx, hb, hml, hown, hA⟩ (k_X1_passTo l dC dI dA sz X Γ hU g b5 (p1.toInt).toNat t_b5 p2 (some b11) ((p3.toInt)) (rq_z t_b11 p_b11).1 (rq_z t_b11 p_b11).2   (by omega)) ⟨callB_of 2 hA (al_A wd_2_71) rfl rfl rfl (hA _ wd_1_8) (hA _ wd_2_68) (by decide +kernel) ⟨Nat.le_of_ble_eq_true rfl, Nat.le_of_ble_eq_true rfl⟩, hA _ wd_2_69, hA _ wd_2_70⟩ ⟨bl, recv_X1 hE hG (by rw [t_b5]), fun U hU9 hW9 => ⟨rfl, by rw [hU9]; exact hG, hE.go hS hU9 hW9⟩⟩ rfl rfl hl.1 rfl (lv_room (Nat.le_of_ble_eq_true rfl)) dX8_own_67 ⟨Nat.zero_le _, Nat.zero_le _⟩) hS (fun u41 H locs w42 hG hS => ?_)
                obtain ⟨hf45, hq43, hq44⟩ := w42
                refine ty_iconst hx hb (1) dX8_own_70 (by decide) (fun x46 h47 => ?_)
                exact W.zret (v := x46) hx hb hr (ty_nb (by omega)).1 (fun t ht hW => ⟨⟨x46, u41, rfl, ⟨(fun c j h43 h53 => by rw [hf45 c j h43 h53]), (⟨fun _ => ⟨(by omega), (by rw [hq43] <;> exact pz_upc (by omega) (by omega)), (by rw [hq44] <;> exact congrArg (pa_w _ _) (by omega))⟩, fun q => absurd (by unfold ok_own; omega) q⟩)⟩, ok1 ht hG⟩, hS.F ht⟩) hS.2.2 dX8_own_71
              · exfalso; omega
      · skip
        refine ty_if_eq (tgt := 36) hx hb dX8_own_23 (by decide) (fun c48 => ?_) (fun c48 => ?_)
        · skip
          refine ty_iconst hx hb (0) dX8_own_36 (by decide) (fun x49 h50 => ?_)
          exact W.zret (v := x49) hx hb hr (ty_nb (by omega)).1 (fun t ht hW => ⟨⟨x49, g, rfl, ⟨(fun c j h43 h53 => by rfl), (⟨fun q => absurd q (by unfold ok_own; omega), fun _ => ⟨(by omega), (rfl), (rfl)⟩⟩)⟩, ok1 ht hG⟩, hS.F ht⟩) hS.2.2 dX8_own_37
        · exfalso; omega
    · skip
      obtain rfl : r9 = none := rq_no t_r9 (by omega)
      clear n_r9 t_r9
      refine lv_astoreN (lv' := [(5, .null), (4, .ref b5), (0, .ref h0), (1, .int p1), (2, .int p2), (3, .int p3)]) hx hb dX8_own_12 hl (by decide) rfl (fun ls hl => ?_)
      refine lv_aload hx hb dX8_own_14 (lv_at hl 1 rfl) ?_
      refine lv_ifnull hx hb dX8_own_16 ?_
      refine lv_iload_n hx hb dX8_own_19 rfl (lv_at hl 4 rfl) ?_
      refine cI (va_runS (As := [.int p2]) (rest := []) ⟨hx, hb, hml, hown, hA⟩ (k_X8_isWeek l dC dI dA sz X Γ hU g p2   ) ⟨callB_of 1 hA (al_A wd_2_59) rfl rfl rfl (hA _ wd_1_1) (hA _ wd_2_57) (by decide +kernel) ⟨Nat.le_of_ble_eq_true rfl, Nat.le_of_ble_eq_true rfl⟩, hA _ wd_2_58⟩ ⟨bl, fun U hU9 hW9 => ⟨rfl, by rw [hU9]; exact hG, hE.go hS hU9 hW9⟩⟩ rfl rfl hl.1 rfl (lv_room (Nat.le_of_ble_eq_true rfl)) dX8_own_20 ⟨Nat.zero_le _, Nat.zero_le _⟩) hS (fun x53 u51 H locs w52 hG hS => ?_)
      obtain ⟨eu54, w52⟩ := w52
      rw [eu54] at hG
      rcases pz_or w52 with w52 | w52
      · skip
        refine ty_if_eq (tgt := 36) hx hb dX8_own_23 (by decide) (fun c55 => ?_) (fun c55 => ?_)
        · exfalso; omega
        · skip
          refine lv_aloadN hx hb dX8_own_26 (lv_at hl 0 rfl) ?_
          refine lv_ifnonnullN hx hb dX8_own_28 ?_
          refine lv_iload_n hx hb dX8_own_31 rfl (lv_at hl 5 rfl) ?_
          refine ty_iconst hx hb (-1) dX8_own_32 (by decide) (fun x56 h57 => ?_)
          refine ty_icmp_eq (tgt := 38) hx hb dX8_own_33 (by decide) (fun c58 => ?_) (fun c58 => ?_)
          · skip
            refine lv_aload hx hb dX8_own_38 (lv_at hl 1 rfl) ?_
            refine get_X1_5 hx hb hA hown hE hG t_b5 wd_1_223 dX8_own_40 (fun b59 t_b59 => ?_)
            refine lv_iload_n hx hb dX8_own_43 rfl (lv_at hl 4 rfl) ?_
            refine ald_15 hx hb hE hG t_b59 (by omega) dX8_own_44 (fun j61 r60 h62 n_r60 t_r60 => ?_)
            obtain rfl : j61 = p2.toInt.toNat := by omega
            clear h62
            refine ty_astoreq (lv' := [(6, va_rf r60), (5, .null), (4, .ref b5), (0, .ref h0), (1, .int p1), (2, .int p2), (3, .int p3)]) hx hb dX8_own_45 hl (by decide) rfl (fun ls hl => ?_)
            refine ty_aloadq hx hb dX8_own_47 (lv_at hl 0 rfl) ?_
            refine ty_ifnull (tgt := 62) hx hb dX8_own_49 (by decide) (fun h65 => ?_) (fun b64 h65 => ?_)
            · skip
              have hz66 := n_r60 h65
              subst h65
              have hl : lv_has ls 7 [(6, .null), (5, .null), (4, .ref b5), (0, .ref h0), (1, .int p1), (2, .int p2), (3, .int p3)] := hl
              refine lv_aload hx hb dX8_own_62 (lv_at hl 2 rfl) ?_
              refine lv_iload_n hx hb dX8_own_64 rfl (lv_at hl 5 rfl) ?_
              refine lv_aloadN hx hb dX8_own_65 (lv_at hl 1 rfl) ?_
              refine cV (va_runV (C := RX1) (As := [.int p2, .null]) (rest := []) ⟨hx, hb, hml, hown, hA⟩ (k_X1_passTo l dC dI dA sz X Γ hU g b5 (p1.toInt).toNat t_b5 p2 (none) ((-1)) (fun _ => rfl) (fun _ h => by cases h)   (by omega)) ⟨callB_of 2 hA (al_A wd_2_71) rfl rfl rfl (hA _ wd_1_8) (hA _ wd_2_68) (by decide +kernel) ⟨Nat.le_of_ble_eq_true rfl, Nat.le_of_ble_eq_true rfl⟩, hA _ wd_2_69, hA _ wd_2_70⟩ ⟨bl, recv_X1 hE hG (by rw [t_b5]), fun U hU9 hW9 => ⟨rfl, by rw [hU9]; exact hG, hE.go hS hU9 hW9⟩⟩ rfl rfl hl.1 rfl (lv_room (Nat.le_of_ble_eq_true rfl)) dX8_own_67 ⟨Nat.zero_le _, Nat.zero_le _⟩) hS (fun u67 H locs w68 hG hS => ?_)
              obtain ⟨hf71, hq69, hq70⟩ := w68
              refine ty_iconst hx hb (1) dX8_own_70 (by decide) (fun x72 h73 => ?_)
              exact W.zret (v := x72) hx hb hr (ty_nb (by omega)).1 (fun t ht hW => ⟨⟨x72, u67, rfl, ⟨(fun c j h43 h53 => by rw [hf71 c j h43 h53]), (⟨fun _ => ⟨(by omega), (by rw [hq69] <;> exact pz_upc (by omega) (by omega)), (by rw [hq70] <;> exact congrArg (pa_w _ _) (by omega))⟩, fun q => absurd (by unfold ok_own; omega) q⟩)⟩, ok1 ht hG⟩, hS.F ht⟩) hS.2.2 dX8_own_71
            · skip
              obtain ⟨t_b64, p_b64⟩ := t_r60 b64 h65
              clear t_r60 n_r60
              subst h65
              have hl : lv_has ls 7 [(6, .ref b64), (5, .null), (4, .ref b5), (0, .ref h0), (1, .int p1), (2, .int p2), (3, .int p3)] := hl
              refine lv_aload hx hb dX8_own_52 (lv_at hl 0 rfl) ?_
              refine cI (va_runV (C := RX2) (As := []) (rest := []) ⟨hx, hb, hml, hown, hA⟩ (k_X2_isOut l dC dI dA sz X Γ hU g b64 ((g 45 (53 * (p1.toInt).toNat + p2.toInt.toNat))).toNat t_b64   ) ⟨callB_of 0 hA (al_A wd_2_63) rfl rfl rfl (hA _ wd_1_15) (hA _ wd_2_60) (by decide +kernel) ⟨Nat.le_of_ble_eq_true rfl, Nat.le_of_ble_eq_true rfl⟩, hA _ wd_2_61, hA _ wd_2_62⟩ ⟨bl, recv_X2 hE hG (by rw [t_b64]), fun U hU9 hW9 => ⟨rfl, by rw [hU9]; exact hG, hE.go hS hU9 hW9⟩⟩ rfl rfl hl.1 rfl (lv_room (Nat.le_of_ble_eq_true rfl)) dX8_own_54 ⟨Nat.zero_le _, Nat.zero_le _⟩) hS (fun x76 u74 H locs w75 hG hS => ?_)
              obtain ⟨eu77, w75⟩ := w75
              rw [eu77] at hG
              rcases pz_or w75 with w75 | w75
              · skip
                refine ty_if_eq (tgt := 62) hx hb dX8_own_57 (by decide) (fun c78 => ?_) (fun c78 => ?_)
                · exfalso; omega
                · skip
                  refine ty_iconst hx hb (0) dX8_own_60 (by decide) (fun x79 h80 => ?_)
                  exact W.zret (v := x79) hx hb hr (ty_nb (by omega)).1 (fun t ht hW => ⟨⟨x79, g, rfl, ⟨(fun c j h43 h53 => by rfl), (⟨fun q => absurd q (by unfold ok_own; omega), fun _ => ⟨(by omega), (rfl), (rfl)⟩⟩)⟩, ok1 ht hG⟩, hS.F ht⟩) hS.2.2 dX8_own_61
              · skip
                refine ty_if_eq (tgt := 62) hx hb dX8_own_57 (by decide) (fun c81 => ?_) (fun c81 => ?_)
                · skip
                  refine lv_aload hx hb dX8_own_62 (lv_at hl 2 rfl) ?_
                  refine lv_iload_n hx hb dX8_own_64 rfl (lv_at hl 5 rfl) ?_
                  refine lv_aloadN hx hb dX8_own_65 (lv_at hl 1 rfl) ?_
                  refine cV (va_runV (C := RX1) (As := [.int p2, .null]) (rest := []) ⟨hx, hb, hml, hown, hA⟩ (k_X1_passTo l dC dI dA sz X Γ hU g b5 (p1.toInt).toNat t_b5 p2 (none) ((-1)) (fun _ => rfl) (fun _ h => by cases h)   (by omega)) ⟨callB_of 2 hA (al_A wd_2_71) rfl rfl rfl (hA _ wd_1_8) (hA _ wd_2_68) (by decide +kernel) ⟨Nat.le_of_ble_eq_true rfl, Nat.le_of_ble_eq_true rfl⟩, hA _ wd_2_69, hA _ wd_2_70⟩ ⟨bl, recv_X1 hE hG (by rw [t_b5]), fun U hU9 hW9 => ⟨rfl, by rw [hU9]; exact hG, hE.go hS hU9 hW9⟩⟩ rfl rfl hl.1 rfl (lv_room (Nat.le_of_ble_eq_true rfl)) dX8_own_67 ⟨Nat.zero_le _, Nat.zero_le _⟩) hS (fun u82 H locs w83 hG hS => ?_)
                  obtain ⟨hf86, hq84, hq85⟩ := w83
                  refine ty_iconst hx hb (1) dX8_own_70 (by decide) (fun x87 h88 => ?_)
                  exact W.zret (v := x87) hx hb hr (ty_nb (by omega)).1 (fun t ht hW => ⟨⟨x87, u82, rfl, ⟨(fun c j h43 h53 => by rw [hf86 c j h43 h53]), (⟨fun _ => ⟨(by omega), (by rw [hq84] <;> exact pz_upc (by omega) (by omega)), (by rw [hq85] <;> exact congrArg (pa_w _ _) (by omega))⟩, fun q => absurd (by unfold ok_own; omega) q⟩)⟩, ok1 ht hG⟩, hS.F ht⟩) hS.2.2 dX8_own_71
                · exfalso; omega
          · skip
            refine ty_iconst hx hb (0) dX8_own_36 (by decide) (fun x89 h90 => ?_)
            exact W.zret (v := x89) hx hb hr (ty_nb (by omega)).1 (fun t ht hW => ⟨⟨x89, g, rfl, ⟨(fun c j h43 h53 => by rfl), (⟨fun q => absurd q (by unfold ok_own; omega), fun _ => ⟨(by omega), (rfl), (rfl)⟩⟩)⟩, ok1 ht hG⟩, hS.F ht⟩) hS.2.2 dX8_own_37
      · skip
        refine ty_if_eq (tgt := 36) hx hb dX8_own_23 (by decide) (fun c91 => ?_) (fun c91 => ?_)
        · skip
          refine ty_iconst hx hb (0) dX8_own_36 (by decide) (fun x92 h93 => ?_)
          exact W.zret (v := x92) hx hb hr (ty_nb (by omega)).1 (fun t ht hW => ⟨⟨x92, g, rfl, ⟨(fun c j h43 h53 => by rfl), (⟨fun q => absurd q (by unfold ok_own; omega), fun _ => ⟨(by omega), (rfl), (rfl)⟩⟩)⟩, ok1 ht hG⟩, hS.F ht⟩) hS.2.2 dX8_own_37
        · exfalso; omega
  · skip
    obtain rfl : r3 = none := rq_no t_r3 (by omega)
    clear n_r3 t_r3
    refine lv_astoreN (lv' := [(4, .null), (0, .ref h0), (1, .int p1), (2, .int p2), (3, .int p3)]) hx hb dX8_own_5 hl (by decide) rfl (fun ls hl => ?_)
    refine lv_aload_n hx hb dX8_own_7 rfl (lv_at hl 1 rfl) ?_
    refine lv_iload_n hx hb dX8_own_8 rfl (lv_at hl 4 rfl) ?_
    refine cQ (va_runV (C := RX8) (As := [.int p3]) (rest := []) ⟨hx, hb, hml, hown, hA⟩ (k_X8_livingOwnerAt l dC dI dA sz X Γ hU g h0 t_h0 p3   (by omega)) ⟨callB_of 1 hA (al_A wd_2_52) rfl rfl rfl (hA _ wd_1_1) (hA _ wd_2_49) (by decide +kernel) ⟨Nat.le_of_ble_eq_true rfl, Nat.le_of_ble_eq_true rfl⟩, hA _ wd_2_51, hA _ ws_1⟩ ⟨bl, recv_X8 hE hG t_h0, fun U hU9 hW9 => ⟨rfl, by rw [hU9]; exact hG, hE.go hS hU9 hW9⟩⟩ rfl rfl hl.1 rfl (lv_room (Nat.le_of_ble_eq_true rfl)) dX8_own_9 ⟨Nat.zero_le _, Nat.zero_le _⟩) hS (fun r96 u94 H locs w95 hG hS => ?_)
    obtain ⟨z_r96, n_r96, t_r96, w95⟩ := w95
    obtain ⟨eu97, w95⟩ := w95
    rw [eu97] at hG
    rcases pz_or w95 with w95 | w95
    · skip
      obtain ⟨b98, h99⟩ := Option.ne_none_iff_exists'.mp (fun h9 => absurd (n_r96 h9) (by omega))
      obtain ⟨t_b98, p_b98⟩ := t_r96 b98 h99
      clear t_r96 n_r96
      subst h99
      replace t_b98 : Γ b98 = (3, (p3.toInt).toNat) := by rw [t_b98, show z_r96 = p3.toInt by omega]
      replace p_b98 : 0 ≤ p3.toInt := by omega
      refine lv_astore (lv' := [(5, .ref b98), (4, .null), (0, .ref h0), (1, .int p1), (2, .int p2), (3, .int p3)]) hx hb dX8_own_12 hl (by decide) rfl (fun ls hl => ?_)
      refine lv_aloadN hx hb dX8_own_14 (lv_at hl 1 rfl) ?_
      refine lv_ifnullN (tgt := 36) hx hb dX8_own_16 (by decide) ?_
      refine ty_iconst hx hb (0) dX8_own_36 (by decide) (fun x100 h101 => ?_)
      exact W.zret (v := x100) hx hb hr (ty_nb (by omega)).1 (fun t ht hW => ⟨⟨x100, g, rfl, ⟨(fun c j h43 h53 => by rfl), (⟨fun q => absurd q (by unfold ok_own; omega), fun _ => ⟨(by omega), (rfl), (rfl)⟩⟩)⟩, ok1 ht hG⟩, hS.F ht⟩) hS.2.2 dX8_own_37
    · skip
      obtain rfl : r96 = none := rq_no t_r96 (by omega)
      clear n_r96 t_r96
      refine lv_astoreN (lv' := [(5, .null), (4, .null), (0, .ref h0), (1, .int p1), (2, .int p2), (3, .int p3)]) hx hb dX8_own_12 hl (by decide) rfl (fun ls hl => ?_)
      refine lv_aloadN hx hb dX8_own_14 (lv_at hl 1 rfl) ?_
      refine lv_ifnullN (tgt := 36) hx hb dX8_own_16 (by decide) ?_
      refine ty_iconst hx hb (0) dX8_own_36 (by decide) (fun x102 h103 => ?_)
      exact W.zret (v := x102) hx hb hr (ty_nb (by omega)).1 (fun t ht hW => ⟨⟨x102, g, rfl, ⟨(fun c j h43 h53 => by rfl), (⟨fun q => absurd q (by unfold ok_own; omega), fun _ => ⟨(by omega), (rfl), (rfl)⟩⟩)⟩, ok1 ht hG⟩, hS.F ht⟩) hS.2.2 dX8_own_37

set_option maxHeartbeats 4000000 in
set_option maxRecDepth 100000 in
/-- WeekBank.worth:  -/
theorem k_X8_worth (l : Launch) (dC : Nat → ClassId) (dI : Nat → Nat → Nat) (dA : Nat → ClassId) (sz : Nat) (X : va_W) (Γ : ty_G) (hU : Un Γ) (g : gh) (h0 : Nat) (t_h0 : ty Γ h0 1) (p1 : Int32) (p2 : Int32) (g1 : g 1 0 = g 33 0 ∧ 0 ≤ g 1 0 ∧ g 1 0 ≤ 6) (g5 : 0 ≤ g 5 0 ∧ g 5 0 ≤ 52) : Met l yX8_worth (.code yX8_worth cX8_worth 4 (Option.some Jvm.ClassFile.FieldType.int) :: AL) ({ frames := 3, cells := 0, slots := 0, locals := 58 }) (PCx dC dI dA sz X Γ g [.ref h0, .int p1, .int p2]) (va_Qi (fun (r : Int32) (u : gh) => u = g ∧ ((ok_pl (g 1 0) p1.toInt p2.toInt → r.toInt = wo_f (g 80) (g 81) (g 82) (64 * (g 13 0).toNat) (g 42 p1.toInt.toNat) p2.toInt (p2.toInt - g 5 0)) ∧ (¬ (ok_pl (g 1 0) p1.toInt p2.toInt) → r.toInt = -1))) (okb dC dI dA sz X Γ) (ty_A sz)) 0 0 (ty_A sz) := by
  refine Met.ofW (cc := cX8_worth) (maxL := 4) (ret := (Option.some Jvm.ClassFile.FieldType.int)) (by decide) rfl ?_
  intro p e s m args below meth c s₁ B hml hv
  obtain ⟨rfl, hG, hE⟩ := hv
  have hx := B.exec
  have hb := B.bytes
  have hr := B.returns
  have hts := atoms_spec B.pre
  have hA : ∀ w ∈ AL, w.before _ s = true := fun w h => hts w (List.mem_cons_of_mem _ h)
  have hown : s.vm.findClass RX8 = some m.cls := findClass_of_methodNamed B.named
  have hlocks := B.notSynchronized
  have hS : va_S (ty_A sz) s.heap s.heap [] := va_S.rf
  have hl := lv_entry ([.ref h0, .int p1, .int p2]) (n := 4) (Nat.le_of_ble_eq_true rfl)
  rw [lg_entry_eq]
  generalize (lg_sl ([.ref h0, .int p1, .int p2]) ++ List.replicate (4 - (lg_sl ([.ref h0, .int p1, .int p2])).length) Slot.unset).toArray = ls at hl ⊢
  have hl : lv_has ls 4 [(0, .ref h0), (1, .int p1), (2, .int p2)] := hl
  refine lv_aload_n hx hb dX8_worth_0 rfl (lv_at hl 0 rfl) ?_
  refine lv_iload_n hx hb dX8_worth_1 rfl (lv_at hl 1 rfl) ?_
  refine cQ (va_runV (C := RX8) (As := [.int p1]) (rest := []) ⟨hx, hb, hml, hown, hA⟩ (k_X8_flatAt l dC dI dA sz X Γ hU g h0 t_h0 p1   (by omega)) ⟨callB_of 1 hA (al_A wd_2_48) rfl rfl rfl (hA _ wd_1_1) (hA _ wd_2_45) (by decide +kernel) ⟨Nat.le_of_ble_eq_true rfl, Nat.le_of_ble_eq_true rfl⟩, hA _ wd_2_47, hA _ ws_0⟩ ⟨bl, recv_X8 hE hG t_h0, fun U hU9 hW9 => ⟨rfl, by rw [hU9]; exact hG, hE.go hS hU9 hW9⟩⟩ rfl rfl hl.1 rfl (lv_room (Nat.le_of_ble_eq_true rfl)) dX8_worth_2 ⟨Nat.zero_le _, Nat.zero_le _⟩) hS (fun r3 u1 H locs w2 hG hS => ?_)
  obtain ⟨z_r3, n_r3, t_r3, w2⟩ := w2
  obtain ⟨eu4, w2⟩ := w2
  rw [eu4] at hG
  rcases pz_or w2 with w2 | w2
  · skip
    obtain ⟨b5, h6⟩ := Option.ne_none_iff_exists'.mp (fun h9 => absurd (n_r3 h9) (by omega))
    obtain ⟨t_b5, p_b5⟩ := t_r3 b5 h6
    clear t_r3 n_r3
    subst h6
    replace t_b5 : Γ b5 = (2, (p1.toInt).toNat) := by rw [t_b5, show z_r3 = p1.toInt by omega]
    replace p_b5 : 0 ≤ p1.toInt := by omega
    refine lv_astore_n (lv' := [(3, .ref b5), (0, .ref h0), (1, .int p1), (2, .int p2)]) hx hb dX8_worth_5 rfl hl (by decide) rfl (fun ls hl => ?_)
    refine lv_aload_n hx hb dX8_worth_6 rfl (lv_at hl 0 rfl) ?_
    refine lv_ifnull hx hb dX8_worth_7 ?_
    refine lv_iload_n hx hb dX8_worth_10 rfl (lv_at hl 3 rfl) ?_
    refine cI (va_runS (As := [.int p2]) (rest := []) ⟨hx, hb, hml, hown, hA⟩ (k_X8_isWeek l dC dI dA sz X Γ hU g p2   ) ⟨callB_of 1 hA (al_A wd_2_59) rfl rfl rfl (hA _ wd_1_1) (hA _ wd_2_57) (by decide +kernel) ⟨Nat.le_of_ble_eq_true rfl, Nat.le_of_ble_eq_true rfl⟩, hA _ wd_2_58⟩ ⟨bl, fun U hU9 hW9 => ⟨rfl, by rw [hU9]; exact hG, hE.go hS hU9 hW9⟩⟩ rfl rfl hl.1 rfl (lv_room (Nat.le_of_ble_eq_true rfl)) dX8_worth_11 ⟨Nat.zero_le _, Nat.zero_le _⟩) hS (fun x9 u7 H locs w8 hG hS => ?_)
    obtain ⟨eu10, w8⟩ := w8
    rw [eu10] at hG
    rcases pz_or w8 with w8 | w8
    · skip
      refine ty_if_ne (tgt := 19) hx hb dX8_worth_14 (by decide) (fun c11 => ?_) (fun c11 => ?_)
      · skip
        refine lv_aload_n hx hb dX8_worth_19 rfl (lv_at hl 1 rfl) ?_
        refine get_X8_7 hx hb hA hown hE hG t_h0 wd_1_164 dX8_worth_20 (fun b12 i13 t_b12 h14 h14' => ?_)
        refine lv_aload_n hx hb dX8_worth_23 rfl (lv_at hl 0 rfl) ?_
        refine get_X1_2 hx hb hA hown hE hG t_b5 wd_1_217 dX8_worth_24 (fun x15 h16 => ?_)
        refine lv_iload_n hx hb dX8_worth_27 rfl (lv_at hl 3 rfl) ?_
        refine lv_iload_n hx hb dX8_worth_28 rfl (lv_at hl 3 rfl) ?_
        refine lv_aload_n hx hb dX8_worth_29 rfl (lv_at hl 1 rfl) ?_
        refine get_X8_10 hx hb hA hown hE hG t_h0 wd_1_167 dX8_worth_30 (fun x18 h19 => ?_)
        refine ty_isub hx hb dX8_worth_33 (fun x21 h22 => ?_)
        try have h23 : x21.toInt = p2.toInt - x18.toInt := ty_sub h22 (by omega) (by omega)
        refine cI (va_runV (C := RX6) (As := [.int x15, .int p2, .int x21]) (rest := []) ⟨hx, hb, hml, hown, hA⟩ (k_X6_worthOf l dC dI dA sz X Γ hU g b12 i13 t_b12 x15 p2 x21   ) ⟨callB_of 3 hA (al_A wd_2_233) rfl rfl rfl (hA _ wd_1_3) (hA _ wd_2_230) (by decide +kernel) ⟨Nat.le_of_ble_eq_true rfl, Nat.le_of_ble_eq_true rfl⟩, hA _ wd_2_231, hA _ wd_2_232⟩ ⟨bl, recv_X6 hE hG (by rw [t_b12]), fun U hU9 hW9 => ⟨rfl, by rw [hU9]; exact hG, hE.go hS hU9 hW9⟩⟩ rfl rfl hl.1 rfl (lv_room (Nat.le_of_ble_eq_true rfl)) dX8_worth_34 ⟨Nat.zero_le _, Nat.zero_le _⟩) hS (fun x26 u24 H locs w25 hG hS => ?_)
        obtain ⟨eu28, hq27⟩ := w25
        rw [eu28] at hG
        exact W.iret (v := x26) hx hb hr (fun t ht hW => ⟨⟨x26, g, rfl, ⟨rfl, (⟨fun _ => (by rw [hq27, show i13 = (g 13 0).toNat by omega, show x15.toInt = g 42 p1.toInt.toNat by omega, show x21.toInt = p2.toInt - g 5 0 by omega]), fun q => absurd (by unfold ok_pl; omega) q⟩)⟩, ok1 ht hG⟩, hS.F ht⟩) hS.2.2 dX8_worth_37
      · exfalso; omega
    · skip
      refine ty_if_ne (tgt := 19) hx hb dX8_worth_14 (by decide) (fun c29 => ?_) (fun c29 => ?_)
      · exfalso; omega
      · skip
        refine ty_iconst hx hb (-1) dX8_worth_17 (by decide) (fun x30 h31 => ?_)
        exact W.iret (v := x30) hx hb hr (fun t ht hW => ⟨⟨x30, g, rfl, ⟨rfl, (⟨fun q => absurd q (by unfold ok_pl; omega), fun _ => (by omega)⟩)⟩, ok1 ht hG⟩, hS.F ht⟩) hS.2.2 dX8_worth_18
  · skip
    obtain rfl : r3 = none := rq_no t_r3 (by omega)
    clear n_r3 t_r3
    refine lv_astore_nN (lv' := [(3, .null), (0, .ref h0), (1, .int p1), (2, .int p2)]) hx hb dX8_worth_5 rfl hl (by decide) rfl (fun ls hl => ?_)
    refine lv_aload_nN hx hb dX8_worth_6 rfl (lv_at hl 0 rfl) ?_
    refine lv_ifnullN (tgt := 17) hx hb dX8_worth_7 (by decide) ?_
    refine ty_iconst hx hb (-1) dX8_worth_17 (by decide) (fun x32 h33 => ?_)
    exact W.iret (v := x32) hx hb hr (fun t ht hW => ⟨⟨x32, g, rfl, ⟨rfl, (⟨fun q => absurd q (by unfold ok_pl; omega), fun _ => (by omega)⟩)⟩, ok1 ht hG⟩, hS.F ht⟩) hS.2.2 dX8_worth_18

set_option maxHeartbeats 4000000 in
set_option maxRecDepth 100000 in
/-- WeekBank.addGift:  -/
theorem k_X8_addGift (l : Launch) (dC : Nat → ClassId) (dI : Nat → Nat → Nat) (dA : Nat → ClassId) (sz : Nat) (X : va_W) (Γ : ty_G) (hU : Un Γ) (g : gh) (h0 : Nat) (t_h0 : ty Γ h0 1) (p1 j : Nat) (t_p1 : Γ p1 = (3, j)) (p2 f : Nat) (t_p2 : Γ p2 = (2, f)) (p3 : Int32) (g3 : g 3 0 = g 35 0 ∧ 0 ≤ g 3 0 ∧ g 3 0 ≤ 200) (g5 : 0 ≤ g 5 0 ∧ g 5 0 ≤ 52) (g3b : g 3 0 < 200 ∧ 0 ≤ p3.toInt ∧ p3.toInt ≤ 52) (hBd : Bd Γ g) : Met l yX8_addGift (.code yX8_addGift cX8_addGift 5 (Option.some Jvm.ClassFile.FieldType.int) :: AL) ({ frames := 3, cells := 1, slots := 10, locals := 58 }) (PCx dC dI dA sz X Γ g [.ref h0, .ref p1, .ref p2, .int p3]) (va_Qi (fun (r : Int32) (u : (ty_G × gh)) => ext Γ u.1 ∧ Un u.1 ∧ Bd u.1 u.2 ∧ (∀ c j : Nat, c ≠ 3 → c ≠ 35 → c ≠ 45 → c ≠ 60 → c ≠ 61 → c ≠ 62 → c ≠ 63 → c ≠ 64 → c ≠ 65 → c ≠ 66 → c ≠ 67 → c ≠ 68 → u.2 c j = g c j) ∧ ((u.2 3 0 = g 3 0 + 1 ∧ u.2 35 0 = g 3 0 + 1)) ∧ (r.toInt = g 3 0) ∧ (u.2 60 = pz_up (g 60) (g 3 0).toNat ((j : Nat) : Int)) ∧ (u.2 61 = pz_up (g 61) (g 3 0).toNat ((f : Nat) : Int)) ∧ (u.2 62 = pz_up (g 62) (g 3 0).toNat p3.toInt) ∧ (u.2 63 = pz_up (g 63) (g 3 0).toNat (g 4 0)) ∧ (u.2 64 = pz_up (g 64) (g 3 0).toNat (wo_f (g 80) (g 81) (g 82) (64 * (g 13 0).toNat) (g 42 f) p3.toInt (p3.toInt - g 5 0))) ∧ (u.2 65 = pz_up (g 65) (g 3 0).toNat 0) ∧ (u.2 66 = pz_up (g 66) (g 3 0).toNat (-1)) ∧ (u.2 67 = pz_up (g 67) (g 3 0).toNat (-1)) ∧ (u.2 68 = pz_up (g 68) (g 3 0).toNat (-1)) ∧ (u.2 45 = pz_up (g 45) (53 * f + p3.toInt.toNat) (g 3 0))) (okB dC dI dA sz X) (ty_A sz)) 1 10 (ty_A sz) := by
  refine Met.ofW (cc := cX8_addGift) (maxL := 5) (ret := (Option.some Jvm.ClassFile.FieldType.int)) (by decide) rfl ?_
  intro p e s m args below meth c s₁ B hml hv
  obtain ⟨rfl, hG, hE⟩ := hv
  have hx := B.exec
  have hb := B.bytes
  have hr := B.returns
  have hts := atoms_spec B.pre
  have hA : ∀ w ∈ AL, w.before _ s = true := fun w h => hts w (List.mem_cons_of_mem _ h)
  have hown : s.vm.findClass RX8 = some m.cls := findClass_of_methodNamed B.named
  have hlocks := B.notSynchronized
  have hS : va_S (ty_A sz) s.heap s.heap [] := va_S.rf
  have hl := lv_entry ([.ref h0, .ref p1, .ref p2, .int p3]) (n := 5) (Nat.le_of_ble_eq_true rfl)
  rw [lg_entry_eq]
  generalize (lg_sl ([.ref h0, .ref p1, .ref p2, .int p3]) ++ List.replicate (5 - (lg_sl ([.ref h0, .ref p1, .ref p2, .int p3])).length) Slot.unset).toArray = ls at hl ⊢
  have hl : lv_has ls 5 [(0, .ref h0), (1, .ref p1), (2, .ref p2), (3, .int p3)] := hl
  refine new_X2 hx hb hA hE hG hS hown wd_1_34 wd_3_13 wd_1_15 (Nat.le_of_ble_eq_true rfl) (Nat.le_of_ble_eq_true rfl) dX8_addGift_0 (fun q1 H z_q1 s_q1 e_q1 hG hS => ?_)
  clear z_q1 s_q1 e_q1
  refine lv_dup hx hb dX8_addGift_3 rfl ?_
  refine lv_aload_n hx hb dX8_addGift_4 rfl (lv_at hl 0 rfl) ?_
  refine get_X8_5 hx hb hA hown hE hG t_h0 wd_1_162 dX8_addGift_5 (fun x2 h3 => ?_)
  refine lv_aload_n hx hb dX8_addGift_8 rfl (lv_at hl 1 rfl) ?_
  refine lv_aload_n hx hb dX8_addGift_9 rfl (lv_at hl 2 rfl) ?_
  refine lv_iload_n hx hb dX8_addGift_10 rfl (lv_at hl 3 rfl) ?_
  refine cVB (va_runI (As := [.int x2, .ref p1, .ref p2, .int p3]) (rest := [.ref q1]) ⟨hx, hb, hml, hown, hA⟩ (k_X2_init l dC dI dA sz X Γ hU g q1 x2 p1 j t_p1 p2 f t_p2 p3 (g 3 0).toNat  (by omega) (Bd.fr4 hBd (by omega))) ⟨callB_of 4 hA (al_A wd_3_16) rfl rfl rfl (hA _ wd_1_15) (hA _ wd_3_14) (by decide +kernel) ⟨Nat.le_of_ble_eq_true rfl, Nat.le_of_ble_eq_true rfl⟩, rfl, hA _ wd_3_15⟩ ⟨bl, fun U hU9 hW9 => ⟨rfl, by rw [hU9]; exact hG, hE.go hS hU9 hW9⟩⟩ rfl rfl hl.1 rfl (lv_room (Nat.le_of_ble_eq_true rfl)) dX8_addGift_11 ⟨Nat.le_of_ble_eq_true rfl, Nat.le_of_ble_eq_true rfl⟩) hS (fun u5 H locs w6 hG hS => ?_)
  obtain ⟨Γ7, g8⟩ := u5
  dsimp only at w6 hG
  obtain ⟨hx9, hU, hN14, t_q1, hf11, hq15, hq16, hq17, hq18, hq19, hq20, hq21, hq22, hq23⟩ := w6
  have hX24 : ext Γ Γ7 := ext.trans ext.rf hx9
  replace t_h0 : ty Γ7 h0 1 := hx9.one t_h0 (by decide)
  replace t_p1 : Γ7 p1 = (3, j) := hx9.two t_p1 (by show (3 : Nat) ≠ 0; decide)
  replace t_p2 : Γ7 p2 = (2, f) := hx9.two t_p2 (by show (2 : Nat) ≠ 0; decide)
  refine lv_astore (lv' := [(4, .ref q1), (0, .ref h0), (1, .ref p1), (2, .ref p2), (3, .int p3)]) hx hb dX8_addGift_14 hl (by decide) rfl (fun ls hl => ?_)
  refine lv_aload hx hb dX8_addGift_16 (lv_at hl 0 rfl) ?_
  refine lv_aload_n hx hb dX8_addGift_18 rfl (lv_at hl 1 rfl) ?_
  refine get_X8_9 hx hb hA hown hE hG t_h0 wd_1_166 dX8_addGift_19 (fun x25 h26 => ?_)
  have hk28 : g8 4 0 = g 4 0 := hf11 4 0 (by decide) (by decide) (by decide) (by decide) (by decide) (by decide) (by decide) (by decide) (by decide)
  refine put_X2_4 hx hb hA hown hE hG hS hU t_q1 wd_3_28 dX8_addGift_22 (fun H locs hG hS => ?_)
  refine lv_aload hx hb dX8_addGift_25 (lv_at hl 0 rfl) ?_
  refine lv_aload_n hx hb dX8_addGift_27 rfl (lv_at hl 1 rfl) ?_
  refine get_X8_7 hx hb hA hown hE hG t_h0 wd_1_164 dX8_addGift_28 (fun b29 i30 t_b29 h31 h31' => ?_)
  replace h31 : (i30 : Int) = g8 13 0 := by rw [h31, gs_c _ _ _ _ (by decide)]
  have hk32 : g8 13 0 = g 13 0 := hf11 13 0 (by decide) (by decide) (by decide) (by decide) (by decide) (by decide) (by decide) (by decide) (by decide)
  refine lv_aload_n hx hb dX8_addGift_31 rfl (lv_at hl 3 rfl) ?_
  refine get_X1_2 hx hb hA hown hE hG t_p2 wd_1_217 dX8_addGift_32 (fun x33 h34 => ?_)
  replace h34 : x33.toInt = g8 42 f := by rw [h34, gs_c _ _ _ _ (by decide)]
  have hk36 : g8 42 f = g 42 f := hf11 42 f (by decide) (by decide) (by decide) (by decide) (by decide) (by decide) (by decide) (by decide) (by decide)
  refine lv_iload_n hx hb dX8_addGift_35 rfl (lv_at hl 4 rfl) ?_
  refine lv_iload_n hx hb dX8_addGift_36 rfl (lv_at hl 4 rfl) ?_
  refine lv_aload_n hx hb dX8_addGift_37 rfl (lv_at hl 1 rfl) ?_
  refine get_X8_10 hx hb hA hown hE hG t_h0 wd_1_167 dX8_addGift_38 (fun x37 h38 => ?_)
  replace h38 : x37.toInt = g8 5 0 := by rw [h38, gs_c _ _ _ _ (by decide)]
  have hk40 : g8 5 0 = g 5 0 := hf11 5 0 (by decide) (by decide) (by decide) (by decide) (by decide) (by decide) (by decide) (by decide) (by decide)
  refine ty_isub hx hb dX8_addGift_41 (fun x41 h42 => ?_)
  try have h43 : x41.toInt = p3.toInt - x37.toInt := ty_sub h42 (by omega) (by omega)
  refine cI (va_runV (C := RX6) (As := [.int x33, .int p3, .int x41]) (rest := [.ref q1]) ⟨hx, hb, hml, hown, hA⟩ (k_X6_worthOf l dC dI dA sz X Γ7 hU (gs g8 63 (g 3 0).toNat x25.toInt) b29 i30 t_b29 x33 p3 x41   ) ⟨callB_of 3 hA (al_A wd_2_233) rfl rfl rfl (hA _ wd_1_3) (hA _ wd_2_230) (by decide +kernel) ⟨Nat.le_of_ble_eq_true rfl, Nat.le_of_ble_eq_true rfl⟩, hA _ wd_2_231, hA _ wd_2_232⟩ ⟨bl, recv_X6 hE hG (by rw [t_b29]), fun U hU9 hW9 => ⟨rfl, by rw [hU9]; exact hG, hE.go hS hU9 hW9⟩⟩ rfl rfl hl.1 rfl (lv_room (Nat.le_of_ble_eq_true rfl)) dX8_addGift_42 ⟨Nat.le_of_ble_eq_true rfl, Nat.le_of_ble_eq_true rfl⟩) hS (fun x46 u44 H locs w45 hG hS => ?_)
  obtain ⟨eu48, hq47⟩ := w45
  rw [eu48] at hG
  rw [show (gs g8 63 (g 3 0).toNat x25.toInt) 80 = (g 80) by rw [gs_r _ _ _ (by decide), (show g8 80 = g 80 from funext fun j => hf11 80 j (by decide) (by decide) (by decide) (by decide) (by decide) (by decide) (by decide) (by decide) (by decide))]] at hq47
  rw [show (gs g8 63 (g 3 0).toNat x25.toInt) 81 = (g 81) by rw [gs_r _ _ _ (by decide), (show g8 81 = g 81 from funext fun j => hf11 81 j (by decide) (by decide) (by decide) (by decide) (by decide) (by decide) (by decide) (by decide) (by decide))]] at hq47
  rw [show (gs g8 63 (g 3 0).toNat x25.toInt) 82 = (g 82) by rw [gs_r _ _ _ (by decide), (show g8 82 = g 82 from funext fun j => hf11 82 j (by decide) (by decide) (by decide) (by decide) (by decide) (by decide) (by decide) (by decide) (by decide))]] at hq47
  refine put_X2_5 hx hb hA hown hE hG hS hU t_q1 wd_3_30 dX8_addGift_45 (fun H locs hG hS => ?_)
  refine lv_aload_n hx hb dX8_addGift_48 rfl (lv_at hl 1 rfl) ?_
  refine get_X8_4 hx hb hA hown hE hG t_h0 wd_1_161 dX8_addGift_49 (fun b49 (t_b49 : ty Γ7 b49 12) => ?_)
  refine lv_aload_n hx hb dX8_addGift_52 rfl (lv_at hl 1 rfl) ?_
  refine get_X8_5 hx hb hA hown hE hG t_h0 wd_1_162 dX8_addGift_53 (fun x50 h51 => ?_)
  replace h51 : x50.toInt = g8 3 0 := by rw [h51, gs_c _ _ _ _ (by decide), gs_c _ _ _ _ (by decide)]
  have hk53 : g8 3 0 = g 3 0 := hf11 3 0 (by decide) (by decide) (by decide) (by decide) (by decide) (by decide) (by decide) (by decide) (by decide)
  refine lv_aload hx hb dX8_addGift_56 (lv_at hl 0 rfl) ?_
  have hk54 : g8 35 0 = g 35 0 := hf11 35 0 (by decide) (by decide) (by decide) (by decide) (by decide) (by decide) (by decide) (by decide) (by decide)
  refine ast_12 hx hb hE hG hS hU t_b49 (t_q1.trans (by rw [show (g 3 0).toNat = x50.toInt.toNat by omega])) (by omega) (by rw [show (gs (gs g8 63 (g 3 0).toNat x25.toInt) 64 (g 3 0).toNat x46.toInt) 35 0 = g8 35 0 by rw [gs_c _ _ _ _ (by decide), gs_c _ _ _ _ (by decide)]]; omega) dX8_addGift_58 (fun H locs hG hS => ?_)
  generalize eg56 : (gs (gs (gs g8 63 (g 3 0).toNat x25.toInt) 64 (g 3 0).toNat x46.toInt) 35 0 (x50.toInt + 1)) = g55 at hG
  have hf57 : ∀ c j : Nat, c ≠ 63 → c ≠ 64 → c ≠ 35 → g55 c j = g8 c j := fun c j h63 h64 h35 => by rw [← eg56, gs_c _ _ _ _ h35, gs_c _ _ _ _ h64, gs_c _ _ _ _ h63]
  have v58 : g55 63 (g 3 0).toNat = x25.toInt := by rw [← eg56, gs_c _ _ _ _ (by decide), gs_c _ _ _ _ (by decide), gs_self]
  have hw59 : g55 63 = (pz_up (pz_up (g 63) (g 3 0).toNat 0) (g 3 0).toNat x25.toInt) := by rw [← eg56, gs_r _ _ _ (by decide), gs_r _ _ _ (by decide), pz_gs, hq18]
  have v60 : g55 64 (g 3 0).toNat = x46.toInt := by rw [← eg56, gs_c _ _ _ _ (by decide), gs_self]
  have hw61 : g55 64 = (pz_up (pz_up (g 64) (g 3 0).toNat 0) (g 3 0).toNat x46.toInt) := by rw [← eg56, gs_r _ _ _ (by decide), pz_gs, gs_r _ _ _ (by decide), hq19]
  have v62 : g55 35 0 = (x50.toInt + 1) := by rw [← eg56, gs_self]
  refine lv_aload_n hx hb dX8_addGift_59 rfl (lv_at hl 1 rfl) ?_
  refine lv_dup hx hb dX8_addGift_60 rfl ?_
  refine get_X8_5 hx hb hA hown hE hG t_h0 wd_1_162 dX8_addGift_61 (fun x63 h64 => ?_)
  have hk66 : g55 3 0 = g8 3 0 := hf57 3 0 (by decide) (by decide) (by decide)
  refine ty_iconst hx hb (1) dX8_addGift_64 (by decide) (fun x67 h68 => ?_)
  refine ty_iadd hx hb dX8_addGift_65 (fun x69 h70 => ?_)
  try have h71 : x69.toInt = x63.toInt + x67.toInt := ty_add h70 (by omega) (by omega)
  refine put_X8_5 hx hb hA hown hE hG hS hU t_h0 wd_1_162 dX8_addGift_66 (fun H locs hG hS => ?_)
  refine lv_aload_n hx hb dX8_addGift_69 rfl (lv_at hl 3 rfl) ?_
  refine get_X1_5 hx hb hA hown hE hG t_p2 wd_1_223 dX8_addGift_70 (fun b72 t_b72 => ?_)
  refine lv_iload_n hx hb dX8_addGift_73 rfl (lv_at hl 4 rfl) ?_
  refine lv_aload hx hb dX8_addGift_74 (lv_at hl 0 rfl) ?_
  refine ast_15 (r := some q1) (z := (((g 3 0).toNat : Nat) : Int)) hx hb hE hG hS hU t_b72 (rq_s t_q1).1 (rq_s t_q1).2 (by omega) dX8_addGift_76 (fun H locs hG hS => ?_)
  refine lv_aload hx hb dX8_addGift_77 (lv_at hl 0 rfl) ?_
  refine get_X2_0 hx hb hA hown hE hG t_q1 wd_3_19 dX8_addGift_79 (fun x73 h74 => ?_)
  have hk75 : g55 33 0 = g8 33 0 := hf57 33 0 (by decide) (by decide) (by decide)
  have hk76 : g8 33 0 = g 33 0 := hf11 33 0 (by decide) (by decide) (by decide) (by decide) (by decide) (by decide) (by decide) (by decide) (by decide)
  have e77 : (gs (gs g55 3 0 x69.toInt) 45 (53 * f + p3.toInt.toNat) (((g 3 0).toNat : Nat) : Int)) 33 0 = g55 33 0 := by rw [gs_c _ _ _ _ (by decide), gs_c _ _ _ _ (by decide)]
  have hk78 : g55 34 0 = g8 34 0 := hf57 34 0 (by decide) (by decide) (by decide)
  have hk79 : g8 34 0 = g 34 0 := hf11 34 0 (by decide) (by decide) (by decide) (by decide) (by decide) (by decide) (by decide) (by decide) (by decide)
  have e80 : (gs (gs g55 3 0 x69.toInt) 45 (53 * f + p3.toInt.toNat) (((g 3 0).toNat : Nat) : Int)) 34 0 = g55 34 0 := by rw [gs_c _ _ _ _ (by decide), gs_c _ _ _ _ (by decide)]
  have e81 : (gs (gs g55 3 0 x69.toInt) 45 (53 * f + p3.toInt.toNat) (((g 3 0).toNat : Nat) : Int)) 35 0 = g55 35 0 := by rw [gs_c _ _ _ _ (by decide), gs_c _ _ _ _ (by decide)]
  have e82 : (gs (gs g55 3 0 x69.toInt) 45 (53 * f + p3.toInt.toNat) (((g 3 0).toNat : Nat) : Int)) 3 0 = x69.toInt := by rw [gs_c _ _ _ _ (by decide), gs_self]
  have e83 : (gs (gs g55 3 0 x69.toInt) 45 (53 * f + p3.toInt.toNat) (((g 3 0).toNat : Nat) : Int)) 35 0 = g55 35 0 := by rw [gs_c _ _ _ _ (by decide), gs_c _ _ _ _ (by decide)]
  have hk84 : g55 13 0 = g8 13 0 := hf57 13 0 (by decide) (by decide) (by decide)
  have e85 : (gs (gs g55 3 0 x69.toInt) 45 (53 * f + p3.toInt.toNat) (((g 3 0).toNat : Nat) : Int)) 13 0 = g55 13 0 := by rw [gs_c _ _ _ _ (by decide), gs_c _ _ _ _ (by decide)]
  have hk86 : g55 5 0 = g8 5 0 := hf57 5 0 (by decide) (by decide) (by decide)
  have e87 : (gs (gs g55 3 0 x69.toInt) 45 (53 * f + p3.toInt.toNat) (((g 3 0).toNat : Nat) : Int)) 5 0 = g55 5 0 := by rw [gs_c _ _ _ _ (by decide), gs_c _ _ _ _ (by decide)]
  refine W.widen (k := 1) (n := 10) (by omega) (by omega) ?_
  exact W.iret (v := x73) hx hb hr (fun t ht hW => ⟨⟨x73, (Γ7, (gs (gs g55 3 0 x69.toInt) 45 (53 * f + p3.toInt.toNat) (((g 3 0).toNat : Nat) : Int))), rfl, ⟨hX24, hU, (Bd.grow hBd hN14 (by dsimp only; omega) (by dsimp only; omega) (by dsimp only; omega) (by dsimp only; exact fun h => absurd h (by decide)) (by dsimp only; exact fun h => absurd h (by decide)) (by dsimp only; exact fun _ => by omega)), (fun c j h3 h35 h45 h60 h61 h62 h63 h64 h65 h66 h67 h68 => by (try dsimp only); rw [gs_c _ _ _ _ h45, gs_c _ _ _ _ h3, hf57 c j h63 h64 h35, hf11 c j h60 h61 h62 h63 h64 h65 h66 h67 h68]), (by dsimp only; omega), (show x73.toInt = g 3 0 from (by omega)), (show (gs (gs g55 3 0 x69.toInt) 45 (53 * f + p3.toInt.toNat) (((g 3 0).toNat : Nat) : Int)) 60 = pz_up (g 60) (g 3 0).toNat ((j : Nat) : Int) from (by rw [gs_r _ _ _ (by decide), gs_r _ _ _ (by decide), (show g55 60 = g8 60 from funext fun j => hf57 60 j (by decide) (by decide) (by decide)), hq15] <;> exact pz_upc (by omega) (by omega))), (show (gs (gs g55 3 0 x69.toInt) 45 (53 * f + p3.toInt.toNat) (((g 3 0).toNat : Nat) : Int)) 61 = pz_up (g 61) (g 3 0).toNat ((f : Nat) : Int) from (by rw [gs_r _ _ _ (by decide), gs_r _ _ _ (by decide), (show g55 61 = g8 61 from funext fun j => hf57 61 j (by decide) (by decide) (by decide)), hq16] <;> exact pz_upc (by omega) (by omega))), (show (gs (gs g55 3 0 x69.toInt) 45 (53 * f + p3.toInt.toNat) (((g 3 0).toNat : Nat) : Int)) 62 = pz_up (g 62) (g 3 0).toNat p3.toInt from (by rw [gs_r _ _ _ (by decide), gs_r _ _ _ (by decide), (show g55 62 = g8 62 from funext fun j => hf57 62 j (by decide) (by decide) (by decide)), hq17] <;> exact pz_upc (by omega) (by omega))), (show (gs (gs g55 3 0 x69.toInt) 45 (53 * f + p3.toInt.toNat) (((g 3 0).toNat : Nat) : Int)) 63 = pz_up (g 63) (g 3 0).toNat (g 4 0) from (by rw [gs_r _ _ _ (by decide), gs_r _ _ _ (by decide), hw59, pz_up_up]; exact pz_upc rfl (by omega))), (show (gs (gs g55 3 0 x69.toInt) 45 (53 * f + p3.toInt.toNat) (((g 3 0).toNat : Nat) : Int)) 64 = pz_up (g 64) (g 3 0).toNat (wo_f (g 80) (g 81) (g 82) (64 * (g 13 0).toNat) (g 42 f) p3.toInt (p3.toInt - g 5 0)) from (by rw [gs_r _ _ _ (by decide), gs_r _ _ _ (by decide), hw61, pz_up_up]; refine pz_upc rfl ?_; rw [hq47, show i30 = (g 13 0).toNat by omega, show x33.toInt = g 42 f by omega, show x41.toInt = p3.toInt - g 5 0 by omega])), (show (gs (gs g55 3 0 x69.toInt) 45 (53 * f + p3.toInt.toNat) (((g 3 0).toNat : Nat) : Int)) 65 = pz_up (g 65) (g 3 0).toNat 0 from (by rw [gs_r _ _ _ (by decide), gs_r _ _ _ (by decide), (show g55 65 = g8 65 from funext fun j => hf57 65 j (by decide) (by decide) (by decide)), hq20] <;> exact pz_upc (by omega) (by omega))), (show (gs (gs g55 3 0 x69.toInt) 45 (53 * f + p3.toInt.toNat) (((g 3 0).toNat : Nat) : Int)) 66 = pz_up (g 66) (g 3 0).toNat (-1) from (by rw [gs_r _ _ _ (by decide), gs_r _ _ _ (by decide), (show g55 66 = g8 66 from funext fun j => hf57 66 j (by decide) (by decide) (by decide)), hq21] <;> exact pz_upc (by omega) (by omega))), (show (gs (gs g55 3 0 x69.toInt) 45 (53 * f + p3.toInt.toNat) (((g 3 0).toNat : Nat) : Int)) 67 = pz_up (g 67) (g 3 0).toNat (-1) from (by rw [gs_r _ _ _ (by decide), gs_r _ _ _ (by decide), (show g55 67 = g8 67 from funext fun j => hf57 67 j (by decide) (by decide) (by decide)), hq22] <;> exact pz_upc (by omega) (by omega))), (show (gs (gs g55 3 0 x69.toInt) 45 (53 * f + p3.toInt.toNat) (((g 3 0).toNat : Nat) : Int)) 68 = pz_up (g 68) (g 3 0).toNat (-1) from (by rw [gs_r _ _ _ (by decide), gs_r _ _ _ (by decide), (show g55 68 = g8 68 from funext fun j => hf57 68 j (by decide) (by decide) (by decide)), hq23] <;> exact pz_upc (by omega) (by omega))), (show (gs (gs g55 3 0 x69.toInt) 45 (53 * f + p3.toInt.toNat) (((g 3 0).toNat : Nat) : Int)) 45 = pz_up (g 45) (53 * f + p3.toInt.toNat) (g 3 0) from (by rw [pz_gs, gs_r _ _ _ (by decide), (show g55 45 = g8 45 from funext fun j => hf57 45 j (by decide) (by decide) (by decide)), (show g8 45 = g 45 from funext fun j => hf11 45 j (by decide) (by decide) (by decide) (by decide) (by decide) (by decide) (by decide) (by decide) (by decide))] <;> exact pz_upc (by omega) (by omega)))⟩, ok2 ht hG⟩, hS.F ht⟩) hS.2.2 dX8_addGift_82

set_option maxHeartbeats 4000000 in
set_option maxRecDepth 100000 in
/-- WeekBank.give:  -/
theorem k_X8_give (l : Launch) (dC : Nat → ClassId) (dI : Nat → Nat → Nat) (dA : Nat → ClassId) (sz : Nat) (X : va_W) (Γ : ty_G) (hU : Un Γ) (g : gh) (h0 : Nat) (t_h0 : ty Γ h0 1) (p1 : Int32) (p2 : Int32) (p3 : Int32) (g1 : g 1 0 = g 33 0 ∧ 0 ≤ g 1 0 ∧ g 1 0 ≤ 6) (g2 : g 2 0 = g 34 0 ∧ 0 ≤ g 2 0 ∧ g 2 0 ≤ 10) (g3 : g 3 0 = g 35 0 ∧ 0 ≤ g 3 0 ∧ g 3 0 ≤ 200) (g5 : 0 ≤ g 5 0 ∧ g 5 0 ≤ 52) (hBd : Bd Γ g) : Met l yX8_give (.code yX8_give cX8_give 7 (Option.some Jvm.ClassFile.FieldType.int) :: AL) ({ frames := 4, cells := 1, slots := 10, locals := 82 }) (PCx dC dI dA sz X Γ g [.ref h0, .int p1, .int p2, .int p3]) (va_Qi (fun (r : Int32) (u : (ty_G × gh)) => ext Γ u.1 ∧ Un u.1 ∧ Bd u.1 u.2 ∧ (∀ c j : Nat, c ≠ 3 → c ≠ 35 → c ≠ 45 → c ≠ 60 → c ≠ 61 → c ≠ 62 → c ≠ 63 → c ≠ 64 → c ≠ 65 → c ≠ 66 → c ≠ 67 → c ≠ 68 → u.2 c j = g c j) ∧ ((gv_c (g 1 0) (g 2 0) (g 3 0) (g 5 0) (g 54) (g 43) (g 44) (g 45 (53 * p2.toInt.toNat + p3.toInt.toNat)) (g 65) p1.toInt p2.toInt p3.toInt = 0 → r.toInt = g 3 0 ∧ u.2 3 0 = g 3 0 + 1 ∧ u.2 35 0 = g 3 0 + 1 ∧ u.2 60 = pz_up (g 60) (g 3 0).toNat p1.toInt ∧ u.2 61 = pz_up (g 61) (g 3 0).toNat p2.toInt ∧ u.2 62 = pz_up (g 62) (g 3 0).toNat p3.toInt ∧ u.2 63 = pz_up (g 63) (g 3 0).toNat (g 4 0) ∧ u.2 64 = pz_up (g 64) (g 3 0).toNat (wo_f (g 80) (g 81) (g 82) (64 * (g 13 0).toNat) (g 42 p2.toInt.toNat) p3.toInt (p3.toInt - g 5 0)) ∧ u.2 65 = pz_up (g 65) (g 3 0).toNat 0 ∧ u.2 66 = pz_up (g 66) (g 3 0).toNat (-1) ∧ u.2 67 = pz_up (g 67) (g 3 0).toNat (-1) ∧ u.2 68 = pz_up (g 68) (g 3 0).toNat (-1) ∧ u.2 45 = pz_up (g 45) (53 * p2.toInt.toNat + p3.toInt.toNat) (g 3 0)) ∧ (gv_c (g 1 0) (g 2 0) (g 3 0) (g 5 0) (g 54) (g 43) (g 44) (g 45 (53 * p2.toInt.toNat + p3.toInt.toNat)) (g 65) p1.toInt p2.toInt p3.toInt ≠ 0 → r.toInt = gv_c (g 1 0) (g 2 0) (g 3 0) (g 5 0) (g 54) (g 43) (g 44) (g 45 (53 * p2.toInt.toNat + p3.toInt.toNat)) (g 65) p1.toInt p2.toInt p3.toInt ∧ u.2 3 0 = g 3 0 ∧ u.2 35 0 = g 35 0 ∧ u.2 45 = g 45 ∧ u.2 60 = g 60 ∧ u.2 61 = g 61 ∧ u.2 62 = g 62 ∧ u.2 63 = g 63 ∧ u.2 64 = g 64 ∧ u.2 65 = g 65 ∧ u.2 66 = g 66 ∧ u.2 67 = g 67 ∧ u.2 68 = g 68))) (okB dC dI dA sz X) (ty_A sz)) 1 10 (ty_A sz) := by
  refine Met.ofW (cc := cX8_give) (maxL := 7) (ret := (Option.some Jvm.ClassFile.FieldType.int)) (by decide) rfl ?_
  intro p e s m args below meth c s₁ B hml hv
  obtain ⟨rfl, hG, hE⟩ := hv
  have hx := B.exec
  have hb := B.bytes
  have hr := B.returns
  have hts := atoms_spec B.pre
  have hA : ∀ w ∈ AL, w.before _ s = true := fun w h => hts w (List.mem_cons_of_mem _ h)
  have hown : s.vm.findClass RX8 = some m.cls := findClass_of_methodNamed B.named
  have hlocks := B.notSynchronized
  have hS : va_S (ty_A sz) s.heap s.heap [] := va_S.rf
  have hl := lv_entry ([.ref h0, .int p1, .int p2, .int p3]) (n := 7) (Nat.le_of_ble_eq_true rfl)
  rw [lg_entry_eq]
  generalize (lg_sl ([.ref h0, .int p1, .int p2, .int p3]) ++ List.replicate (7 - (lg_sl ([.ref h0, .int p1, .int p2, .int p3])).length) Slot.unset).toArray = ls at hl ⊢
  have hl : lv_has ls 7 [(0, .ref h0), (1, .int p1), (2, .int p2), (3, .int p3)] := hl
  refine lv_aload_n hx hb dX8_give_0 rfl (lv_at hl 0 rfl) ?_
  refine lv_iload_n hx hb dX8_give_1 rfl (lv_at hl 1 rfl) ?_
  refine cQ (va_runV (C := RX8) (As := [.int p1]) (rest := []) ⟨hx, hb, hml, hown, hA⟩ (k_X8_livingOwnerAt l dC dI dA sz X Γ hU g h0 t_h0 p1   (by omega)) ⟨callB_of 1 hA (al_A wd_2_52) rfl rfl rfl (hA _ wd_1_1) (hA _ wd_2_49) (by decide +kernel) ⟨Nat.le_of_ble_eq_true rfl, Nat.le_of_ble_eq_true rfl⟩, hA _ wd_2_51, hA _ ws_1⟩ ⟨bl, recv_X8 hE hG t_h0, fun U hU9 hW9 => ⟨rfl, by rw [hU9]; exact hG, hE.go hS hU9 hW9⟩⟩ rfl rfl hl.1 rfl (lv_room (Nat.le_of_ble_eq_true rfl)) dX8_give_2 ⟨Nat.zero_le _, Nat.zero_le _⟩) hS (fun r3 u1 H locs w2 hG hS => ?_)
  obtain ⟨z_r3, n_r3, t_r3, w2⟩ := w2
  obtain ⟨eu4, w2⟩ := w2
  rw [eu4] at hG
  rcases pz_or w2 with w2 | w2
  · skip
    obtain ⟨b5, h6⟩ := Option.ne_none_iff_exists'.mp (fun h9 => absurd (n_r3 h9) (by omega))
    obtain ⟨t_b5, p_b5⟩ := t_r3 b5 h6
    clear t_r3 n_r3
    subst h6
    replace t_b5 : Γ b5 = (3, (p1.toInt).toNat) := by rw [t_b5, show z_r3 = p1.toInt by omega]
    replace p_b5 : 0 ≤ p1.toInt := by omega
    refine lv_astore (lv' := [(4, .ref b5), (0, .ref h0), (1, .int p1), (2, .int p2), (3, .int p3)]) hx hb dX8_give_5 hl (by decide) rfl (fun ls hl => ?_)
    refine lv_aload_n hx hb dX8_give_7 rfl (lv_at hl 1 rfl) ?_
    refine lv_iload_n hx hb dX8_give_8 rfl (lv_at hl 3 rfl) ?_
    refine cQ (va_runV (C := RX8) (As := [.int p2]) (rest := []) ⟨hx, hb, hml, hown, hA⟩ (k_X8_flatAt l dC dI dA sz X Γ hU g h0 t_h0 p2   (by omega)) ⟨callB_of 1 hA (al_A wd_2_48) rfl rfl rfl (hA _ wd_1_1) (hA _ wd_2_45) (by decide +kernel) ⟨Nat.le_of_ble_eq_true rfl, Nat.le_of_ble_eq_true rfl⟩, hA _ wd_2_47, hA _ ws_0⟩ ⟨bl, recv_X8 hE hG t_h0, fun U hU9 hW9 => ⟨rfl, by rw [hU9]; exact hG, hE.go hS hU9 hW9⟩⟩ rfl rfl hl.1 rfl (lv_room (Nat.le_of_ble_eq_true rfl)) dX8_give_9 ⟨Nat.zero_le _, Nat.zero_le _⟩) hS (fun r9 u7 H locs w8 hG hS => ?_)
    obtain ⟨z_r9, n_r9, t_r9, w8⟩ := w8
    obtain ⟨eu10, w8⟩ := w8
    rw [eu10] at hG
    rcases pz_or w8 with w8 | w8
    · skip
      obtain ⟨b11, h12⟩ := Option.ne_none_iff_exists'.mp (fun h9 => absurd (n_r9 h9) (by omega))
      obtain ⟨t_b11, p_b11⟩ := t_r9 b11 h12
      clear t_r9 n_r9
      subst h12
      replace t_b11 : Γ b11 = (2, (p2.toInt).toNat) := by rw [t_b11, show z_r9 = p2.toInt by omega]
      replace p_b11 : 0 ≤ p2.toInt := by omega
      refine lv_astore (lv' := [(5, .ref b11), (4, .ref b5), (0, .ref h0), (1, .int p1), (2, .int p2), (3, .int p3)]) hx hb dX8_give_12 hl (by decide) rfl (fun ls hl => ?_)
      refine lv_aload hx hb dX8_give_14 (lv_at hl 1 rfl) ?_
      refine lv_ifnull hx hb dX8_give_16 ?_
      refine lv_aload hx hb dX8_give_19 (lv_at hl 0 rfl) ?_
      refine lv_ifnull hx hb dX8_give_21 ?_
      refine lv_iload_n hx hb dX8_give_24 rfl (lv_at hl 5 rfl) ?_
      refine cI (va_runS (As := [.int p3]) (rest := []) ⟨hx, hb, hml, hown, hA⟩ (k_X8_isWeek l dC dI dA sz X Γ hU g p3   ) ⟨callB_of 1 hA (al_A wd_2_59) rfl rfl rfl (hA _ wd_1_1) (hA _ wd_2_57) (by decide +kernel) ⟨Nat.le_of_ble_eq_true rfl, Nat.le_of_ble_eq_true rfl⟩, hA _ wd_2_58⟩ ⟨bl, fun U hU9 hW9 => ⟨rfl, by rw [hU9]; exact hG, hE.go hS hU9 hW9⟩⟩ rfl rfl hl.1 rfl (lv_room (Nat.le_of_ble_eq_true rfl)) dX8_give_25 ⟨Nat.zero_le _, Nat.zero_le _⟩) hS (fun x15 u13 H locs w14 hG hS => ?_)
      obtain ⟨eu16, w14⟩ := w14
      rw [eu16] at hG
      rcases pz_or w14 with w14 | w14
      · skip
        refine ty_if_ne (tgt := 33) hx hb dX8_give_28 (by decide) (fun c17 => ?_) (fun c17 => ?_)
        · skip
          refine lv_aload hx hb dX8_give_33 (lv_at hl 0 rfl) ?_
          refine get_X1_3 hx hb hA hown hE hG t_b11 wd_1_219 dX8_give_35 (fun b18 t_b18 => ?_)
          refine lv_iload_n hx hb dX8_give_38 rfl (lv_at hl 5 rfl) ?_
          refine ald_13 hx hb hE hG t_b18 (by omega) dX8_give_39 (fun j20 r19 h21 n_r19 t_r19 => ?_)
          obtain rfl : j20 = p3.toInt.toNat := by omega
          clear h21
          refine lv_aload hx hb dX8_give_40 (lv_at hl 1 rfl) ?_
          have hq24 := rq_eq hU (by decide : sg2 3 = true) (And.intro n_r19 t_r19) (rq_z t_b5 p_b5)
          refine lv_acmp_eq (rx := r19) (ry := some b5) (tgt := 48) hx hb dX8_give_42 (by decide) (fun h23 => ?_) (fun h23 => ?_)
          · skip
            replace hq24 : (g 43 (53 * (p2.toInt).toNat + p3.toInt.toNat)) = (p1.toInt) := hq24.mp h23
            refine lv_iload_n hx hb dX8_give_48 rfl (lv_at hl 5 rfl) ?_
            refine lv_aload_n hx hb dX8_give_49 rfl (lv_at hl 2 rfl) ?_
            refine get_X8_10 hx hb hA hown hE hG t_h0 wd_1_167 dX8_give_50 (fun x25 h26 => ?_)
            refine ty_icmp_gt (tgt := 59) hx hb dX8_give_53 (by decide) (fun c28 => ?_) (fun c28 => ?_)
            · skip
              refine lv_aload hx hb dX8_give_59 (lv_at hl 0 rfl) ?_
              refine get_X1_4 hx hb hA hown hE hG t_b11 wd_1_221 dX8_give_61 (fun b29 t_b29 => ?_)
              refine lv_iload_n hx hb dX8_give_64 rfl (lv_at hl 5 rfl) ?_
              refine ald_14 hx hb hE hG t_b29 (by omega) dX8_give_65 (fun j31 x30 h32 h33 h34 => ?_)
              obtain rfl : j31 = p3.toInt.toNat := by omega
              refine ty_if_eq (tgt := 72) hx hb dX8_give_66 (by decide) (fun c35 => ?_) (fun c35 => ?_)
              · skip
                refine lv_aload hx hb dX8_give_72 (lv_at hl 0 rfl) ?_
                refine get_X1_5 hx hb hA hown hE hG t_b11 wd_1_223 dX8_give_74 (fun b36 t_b36 => ?_)
                refine lv_iload_n hx hb dX8_give_77 rfl (lv_at hl 5 rfl) ?_
                refine ald_15 hx hb hE hG t_b36 (by omega) dX8_give_78 (fun j38 r37 h39 n_r37 t_r37 => ?_)
                obtain rfl : j38 = p3.toInt.toNat := by omega
                clear h39
                refine ty_astoreq (lv' := [(6, va_rf r37), (5, .ref b11), (4, .ref b5), (0, .ref h0), (1, .int p1), (2, .int p2), (3, .int p3)]) hx hb dX8_give_79 hl (by decide) rfl (fun ls hl => ?_)
                refine ty_aloadq hx hb dX8_give_81 (lv_at hl 0 rfl) ?_
                refine ty_ifnull (tgt := 98) hx hb dX8_give_83 (by decide) (fun h42 => ?_) (fun b41 h42 => ?_)
                · skip
                  have hz43 := n_r37 h42
                  subst h42
                  have hl : lv_has ls 7 [(6, .null), (5, .ref b11), (4, .ref b5), (0, .ref h0), (1, .int p1), (2, .int p2), (3, .int p3)] := hl
                  refine lv_aload_n hx hb dX8_give_98 rfl (lv_at hl 3 rfl) ?_
                  refine get_X8_5 hx hb hA hown hE hG t_h0 wd_1_162 dX8_give_99 (fun x44 h45 => ?_)
                  refine ty_sipush hx hb (200) dX8_give_102 (by decide) (fun x47 h48 => ?_)
                  refine ty_icmp_ge (tgt := 118) hx hb dX8_give_105 (by decide) (fun c49 => ?_) (fun c49 => ?_)
                  · skip
                    refine ty_bipush hx hb (-6) dX8_give_118 (by decide) (fun x50 h51 => ?_)
                    refine W.widen (k := 1) (n := 10) (by omega) (by omega) ?_
                    exact W.iret (v := x50) hx hb hr (fun t ht hW => ⟨⟨x50, (Γ, g), rfl, ⟨ext.rf, hU, (hBd), (fun c j h3 h35 h45 h60 h61 h62 h63 h64 h65 h66 h67 h68 => by rfl), (show (gv_c (g 1 0) (g 2 0) (g 3 0) (g 5 0) (g 54) (g 43) (g 44) (g 45 (53 * p2.toInt.toNat + p3.toInt.toNat)) (g 65) p1.toInt p2.toInt p3.toInt = 0 → x50.toInt = g 3 0 ∧ g 3 0 = g 3 0 + 1 ∧ g 35 0 = g 3 0 + 1 ∧ g 60 = pz_up (g 60) (g 3 0).toNat p1.toInt ∧ g 61 = pz_up (g 61) (g 3 0).toNat p2.toInt ∧ g 62 = pz_up (g 62) (g 3 0).toNat p3.toInt ∧ g 63 = pz_up (g 63) (g 3 0).toNat (g 4 0) ∧ g 64 = pz_up (g 64) (g 3 0).toNat (wo_f (g 80) (g 81) (g 82) (64 * (g 13 0).toNat) (g 42 p2.toInt.toNat) p3.toInt (p3.toInt - g 5 0)) ∧ g 65 = pz_up (g 65) (g 3 0).toNat 0 ∧ g 66 = pz_up (g 66) (g 3 0).toNat (-1) ∧ g 67 = pz_up (g 67) (g 3 0).toNat (-1) ∧ g 68 = pz_up (g 68) (g 3 0).toNat (-1) ∧ g 45 = pz_up (g 45) (53 * p2.toInt.toNat + p3.toInt.toNat) (g 3 0)) ∧ (gv_c (g 1 0) (g 2 0) (g 3 0) (g 5 0) (g 54) (g 43) (g 44) (g 45 (53 * p2.toInt.toNat + p3.toInt.toNat)) (g 65) p1.toInt p2.toInt p3.toInt ≠ 0 → x50.toInt = gv_c (g 1 0) (g 2 0) (g 3 0) (g 5 0) (g 54) (g 43) (g 44) (g 45 (53 * p2.toInt.toNat + p3.toInt.toNat)) (g 65) p1.toInt p2.toInt p3.toInt ∧ g 3 0 = g 3 0 ∧ g 35 0 = g 35 0 ∧ g 45 = g 45 ∧ g 60 = g 60 ∧ g 61 = g 61 ∧ g 62 = g 62 ∧ g 63 = g 63 ∧ g 64 = g 64 ∧ g 65 = g 65 ∧ g 66 = g 66 ∧ g 67 = g 67 ∧ g 68 = g 68) from (by have hcd : gv_c (g 1 0) (g 2 0) (g 3 0) (g 5 0) (g 54) (g 43) (g 44) (g 45 (53 * p2.toInt.toNat + p3.toInt.toNat)) (g 65) p1.toInt p2.toInt p3.toInt = -6 := (by unfold gv_c; rw [if_neg (by omega), if_neg (by omega), if_neg (by omega), if_neg (by omega), if_neg (by omega), if_pos (by omega)]); exact ⟨fun q => absurd (hcd.symm.trans q) (by decide), fun _ => ⟨(by rw [hcd]; omega), (rfl), (rfl), (rfl), (rfl), (rfl), (rfl), (rfl), (rfl), (rfl), (rfl), (rfl), (rfl)⟩⟩))⟩, ok2 ht hG⟩, hS.F ht⟩) hS.2.2 dX8_give_120
                  · skip
                    refine lv_aload_n hx hb dX8_give_108 rfl (lv_at hl 3 rfl) ?_
                    refine ty_iconst hx hb (0) dX8_give_109 (by decide) (fun x52 h53 => ?_)
                    refine cI (va_runV (C := RX8) (As := [.int x52]) (rest := []) ⟨hx, hb, hml, hown, hA⟩ (k_X8_countGifts l dC dI dA sz X Γ hU g h0 t_h0 x52   (by omega)) ⟨callB_of 1 hA (al_A wd_3_8) rfl rfl rfl (hA _ wd_1_1) (hA _ wd_3_5) (by decide +kernel) ⟨Nat.le_of_ble_eq_true rfl, Nat.le_of_ble_eq_true rfl⟩, hA _ wd_3_7, hA _ ws_15⟩ ⟨bl, recv_X8 hE hG t_h0, fun U hU9 hW9 => ⟨rfl, by rw [hU9]; exact hG, hE.go hS hU9 hW9⟩⟩ rfl rfl hl.1 rfl (lv_room (Nat.le_of_ble_eq_true rfl)) dX8_give_110 ⟨Nat.zero_le _, Nat.zero_le _⟩) hS (fun x56 u54 H locs w55 hG hS => ?_)
                    obtain ⟨eu57, w55⟩ := w55
                    rw [eu57] at hG
                    rw [show x52.toInt = 0 by omega] at w55
                    refine ty_bipush hx hb (9) dX8_give_113 (by decide) (fun x58 h59 => ?_)
                    refine ty_icmp_lt (tgt := 121) hx hb dX8_give_115 (by decide) (fun c60 => ?_) (fun c60 => ?_)
                    · skip
                      refine lv_aload_n hx hb dX8_give_121 rfl (lv_at hl 3 rfl) ?_
                      refine lv_aload hx hb dX8_give_122 (lv_at hl 2 rfl) ?_
                      refine lv_aload hx hb dX8_give_124 (lv_at hl 1 rfl) ?_
                      refine lv_iload_n hx hb dX8_give_126 rfl (lv_at hl 6 rfl) ?_
                      refine cIB (va_runV (C := RX8) (As := [.ref b5, .ref b11, .int p3]) (rest := []) ⟨hx, hb, hml, hown, hA⟩ (k_X8_addGift l dC dI dA sz X Γ hU g h0 t_h0 b5 (p1.toInt).toNat t_b5 b11 (p2.toInt).toNat t_b11 p3   (by omega) (by omega) (by omega) (by omega)) ⟨callB_of 3 hA (al_A wd_3_12) rfl rfl rfl (hA _ wd_1_1) (hA _ wd_3_9) (by decide +kernel) ⟨Nat.le_of_ble_eq_true rfl, Nat.le_of_ble_eq_true rfl⟩, hA _ wd_3_11, hA _ ws_16⟩ ⟨bl, recv_X8 hE hG t_h0, fun U hU9 hW9 => ⟨rfl, by rw [hU9]; exact hG, hE.go hS hU9 hW9⟩⟩ rfl rfl hl.1 rfl (lv_room (Nat.le_of_ble_eq_true rfl)) dX8_give_127 ⟨Nat.le_of_ble_eq_true rfl, Nat.le_of_ble_eq_true rfl⟩) hS (fun x63 u61 H locs w62 hG hS => ?_)
                      obtain ⟨Γ64, g65⟩ := u61
                      dsimp only at w62 hG
                      obtain ⟨hx66, hU, hB70, hf67, w68, hq71, hq72, hq73, hq74, hq75, hq76, hq77, hq78, hq79, hq80, hq81⟩ := w62
                      have hX82 : ext Γ Γ64 := ext.trans ext.rf hx66
                      replace t_b11 : Γ64 b11 = (2, (p2.toInt).toNat) := hx66.two t_b11 (by show (2 : Nat) ≠ 0; decide)
                      replace t_b5 : Γ64 b5 = (3, (p1.toInt).toNat) := hx66.two t_b5 (by show (3 : Nat) ≠ 0; decide)
                      replace t_h0 : ty Γ64 h0 1 := hx66.one t_h0 (by decide)
                      refine W.widen (k := 1) (n := 10) (by omega) (by omega) ?_
                      exact W.iret (v := x63) hx hb hr (fun t ht hW => ⟨⟨x63, (Γ64, g65), rfl, ⟨hX82, hU, (hB70), (fun c j h3 h35 h45 h60 h61 h62 h63 h64 h65 h66 h67 h68 => by (try dsimp only); rw [hf67 c j h3 h35 h45 h60 h61 h62 h63 h64 h65 h66 h67 h68]), (show (gv_c (g 1 0) (g 2 0) (g 3 0) (g 5 0) (g 54) (g 43) (g 44) (g 45 (53 * p2.toInt.toNat + p3.toInt.toNat)) (g 65) p1.toInt p2.toInt p3.toInt = 0 → x63.toInt = g 3 0 ∧ g65 3 0 = g 3 0 + 1 ∧ g65 35 0 = g 3 0 + 1 ∧ g65 60 = pz_up (g 60) (g 3 0).toNat p1.toInt ∧ g65 61 = pz_up (g 61) (g 3 0).toNat p2.toInt ∧ g65 62 = pz_up (g 62) (g 3 0).toNat p3.toInt ∧ g65 63 = pz_up (g 63) (g 3 0).toNat (g 4 0) ∧ g65 64 = pz_up (g 64) (g 3 0).toNat (wo_f (g 80) (g 81) (g 82) (64 * (g 13 0).toNat) (g 42 p2.toInt.toNat) p3.toInt (p3.toInt - g 5 0)) ∧ g65 65 = pz_up (g 65) (g 3 0).toNat 0 ∧ g65 66 = pz_up (g 66) (g 3 0).toNat (-1) ∧ g65 67 = pz_up (g 67) (g 3 0).toNat (-1) ∧ g65 68 = pz_up (g 68) (g 3 0).toNat (-1) ∧ g65 45 = pz_up (g 45) (53 * p2.toInt.toNat + p3.toInt.toNat) (g 3 0)) ∧ (gv_c (g 1 0) (g 2 0) (g 3 0) (g 5 0) (g 54) (g 43) (g 44) (g 45 (53 * p2.toInt.toNat + p3.toInt.toNat)) (g 65) p1.toInt p2.toInt p3.toInt ≠ 0 → x63.toInt = gv_c (g 1 0) (g 2 0) (g 3 0) (g 5 0) (g 54) (g 43) (g 44) (g 45 (53 * p2.toInt.toNat + p3.toInt.toNat)) (g 65) p1.toInt p2.toInt p3.toInt ∧ g65 3 0 = g 3 0 ∧ g65 35 0 = g 35 0 ∧ g65 45 = g 45 ∧ g65 60 = g 60 ∧ g65 61 = g 61 ∧ g65 62 = g 62 ∧ g65 63 = g 63 ∧ g65 64 = g 64 ∧ g65 65 = g 65 ∧ g65 66 = g 66 ∧ g65 67 = g 67 ∧ g65 68 = g 68) from (by have hcd : gv_c (g 1 0) (g 2 0) (g 3 0) (g 5 0) (g 54) (g 43) (g 44) (g 45 (53 * p2.toInt.toNat + p3.toInt.toNat)) (g 65) p1.toInt p2.toInt p3.toInt = 0 := (by unfold gv_c; rw [if_neg (by omega), if_neg (by omega), if_neg (by omega), if_neg (by omega), if_neg (by omega), if_neg (by omega)]); exact ⟨fun _ => ⟨(by omega), (by omega), (by omega), (by rw [hq72] <;> exact pz_upc (by omega) (by omega)), (by rw [hq73] <;> exact pz_upc (by omega) (by omega)), (by rw [hq74] <;> exact pz_upc (by omega) (by omega)), (by rw [hq75] <;> exact pz_upc (by omega) (by omega)), (by rw [hq76] <;> exact pz_upc (by omega) (by omega)), (by rw [hq77] <;> exact pz_upc (by omega) (by omega)), (by rw [hq78] <;> exact pz_upc (by omega) (by omega)), (by rw [hq79] <;> exact pz_upc (by omega) (by omega)), (by rw [hq80] <;> exact pz_upc (by omega) (by omega)), (by rw [hq81] <;> exact pz_upc (by omega) (by omega))⟩, fun q => absurd hcd q⟩))⟩, ok2 ht hG⟩, hS.F ht⟩) hS.2.2 dX8_give_130
                    · skip
                      refine ty_bipush hx hb (-6) dX8_give_118 (by decide) (fun x83 h84 => ?_)
                      refine W.widen (k := 1) (n := 10) (by omega) (by omega) ?_
                      exact W.iret (v := x83) hx hb hr (fun t ht hW => ⟨⟨x83, (Γ, g), rfl, ⟨ext.rf, hU, (hBd), (fun c j h3 h35 h45 h60 h61 h62 h63 h64 h65 h66 h67 h68 => by rfl), (show (gv_c (g 1 0) (g 2 0) (g 3 0) (g 5 0) (g 54) (g 43) (g 44) (g 45 (53 * p2.toInt.toNat + p3.toInt.toNat)) (g 65) p1.toInt p2.toInt p3.toInt = 0 → x83.toInt = g 3 0 ∧ g 3 0 = g 3 0 + 1 ∧ g 35 0 = g 3 0 + 1 ∧ g 60 = pz_up (g 60) (g 3 0).toNat p1.toInt ∧ g 61 = pz_up (g 61) (g 3 0).toNat p2.toInt ∧ g 62 = pz_up (g 62) (g 3 0).toNat p3.toInt ∧ g 63 = pz_up (g 63) (g 3 0).toNat (g 4 0) ∧ g 64 = pz_up (g 64) (g 3 0).toNat (wo_f (g 80) (g 81) (g 82) (64 * (g 13 0).toNat) (g 42 p2.toInt.toNat) p3.toInt (p3.toInt - g 5 0)) ∧ g 65 = pz_up (g 65) (g 3 0).toNat 0 ∧ g 66 = pz_up (g 66) (g 3 0).toNat (-1) ∧ g 67 = pz_up (g 67) (g 3 0).toNat (-1) ∧ g 68 = pz_up (g 68) (g 3 0).toNat (-1) ∧ g 45 = pz_up (g 45) (53 * p2.toInt.toNat + p3.toInt.toNat) (g 3 0)) ∧ (gv_c (g 1 0) (g 2 0) (g 3 0) (g 5 0) (g 54) (g 43) (g 44) (g 45 (53 * p2.toInt.toNat + p3.toInt.toNat)) (g 65) p1.toInt p2.toInt p3.toInt ≠ 0 → x83.toInt = gv_c (g 1 0) (g 2 0) (g 3 0) (g 5 0) (g 54) (g 43) (g 44) (g 45 (53 * p2.toInt.toNat + p3.toInt.toNat)) (g 65) p1.toInt p2.toInt p3.toInt ∧ g 3 0 = g 3 0 ∧ g 35 0 = g 35 0 ∧ g 45 = g 45 ∧ g 60 = g 60 ∧ g 61 = g 61 ∧ g 62 = g 62 ∧ g 63 = g 63 ∧ g 64 = g 64 ∧ g 65 = g 65 ∧ g 66 = g 66 ∧ g 67 = g 67 ∧ g 68 = g 68) from (by have hcd : gv_c (g 1 0) (g 2 0) (g 3 0) (g 5 0) (g 54) (g 43) (g 44) (g 45 (53 * p2.toInt.toNat + p3.toInt.toNat)) (g 65) p1.toInt p2.toInt p3.toInt = -6 := (by unfold gv_c; rw [if_neg (by omega), if_neg (by omega), if_neg (by omega), if_neg (by omega), if_neg (by omega), if_pos (by omega)]); exact ⟨fun q => absurd (hcd.symm.trans q) (by decide), fun _ => ⟨(by rw [hcd]; omega), (rfl), (rfl), (rfl), (rfl), (rfl), (rfl), (rfl), (rfl), (rfl), (rfl), (rfl), (rfl)⟩⟩))⟩, ok2 ht hG⟩, hS.F ht⟩) hS.2.2 dX8_give_120
                · skip
                  obtain ⟨t_b41, p_b41⟩ := t_r37 b41 h42
                  clear t_r37 n_r37
                  subst h42
                  have hl : lv_has ls 7 [(6, .ref b41), (5, .ref b11), (4, .ref b5), (0, .ref h0), (1, .int p1), (2, .int p2), (3, .int p3)] := hl
                  refine lv_aload hx hb dX8_give_86 (lv_at hl 0 rfl) ?_
                  refine get_X2_6 hx hb hA hown hE hG t_b41 wd_3_34 dX8_give_88 (fun x85 h86 => ?_)
                  refine ty_iconst hx hb (4) dX8_give_91 (by decide) (fun x88 h89 => ?_)
                  refine ty_icmp_eq (tgt := 98) hx hb dX8_give_92 (by decide) (fun c90 => ?_) (fun c90 => ?_)
                  · skip
                    refine lv_aload_n hx hb dX8_give_98 rfl (lv_at hl 3 rfl) ?_
                    refine get_X8_5 hx hb hA hown hE hG t_h0 wd_1_162 dX8_give_99 (fun x91 h92 => ?_)
                    refine ty_sipush hx hb (200) dX8_give_102 (by decide) (fun x94 h95 => ?_)
                    refine ty_icmp_ge (tgt := 118) hx hb dX8_give_105 (by decide) (fun c96 => ?_) (fun c96 => ?_)
                    · skip
                      refine ty_bipush hx hb (-6) dX8_give_118 (by decide) (fun x97 h98 => ?_)
                      refine W.widen (k := 1) (n := 10) (by omega) (by omega) ?_
                      exact W.iret (v := x97) hx hb hr (fun t ht hW => ⟨⟨x97, (Γ, g), rfl, ⟨ext.rf, hU, (hBd), (fun c j h3 h35 h45 h60 h61 h62 h63 h64 h65 h66 h67 h68 => by rfl), (show (gv_c (g 1 0) (g 2 0) (g 3 0) (g 5 0) (g 54) (g 43) (g 44) (g 45 (53 * p2.toInt.toNat + p3.toInt.toNat)) (g 65) p1.toInt p2.toInt p3.toInt = 0 → x97.toInt = g 3 0 ∧ g 3 0 = g 3 0 + 1 ∧ g 35 0 = g 3 0 + 1 ∧ g 60 = pz_up (g 60) (g 3 0).toNat p1.toInt ∧ g 61 = pz_up (g 61) (g 3 0).toNat p2.toInt ∧ g 62 = pz_up (g 62) (g 3 0).toNat p3.toInt ∧ g 63 = pz_up (g 63) (g 3 0).toNat (g 4 0) ∧ g 64 = pz_up (g 64) (g 3 0).toNat (wo_f (g 80) (g 81) (g 82) (64 * (g 13 0).toNat) (g 42 p2.toInt.toNat) p3.toInt (p3.toInt - g 5 0)) ∧ g 65 = pz_up (g 65) (g 3 0).toNat 0 ∧ g 66 = pz_up (g 66) (g 3 0).toNat (-1) ∧ g 67 = pz_up (g 67) (g 3 0).toNat (-1) ∧ g 68 = pz_up (g 68) (g 3 0).toNat (-1) ∧ g 45 = pz_up (g 45) (53 * p2.toInt.toNat + p3.toInt.toNat) (g 3 0)) ∧ (gv_c (g 1 0) (g 2 0) (g 3 0) (g 5 0) (g 54) (g 43) (g 44) (g 45 (53 * p2.toInt.toNat + p3.toInt.toNat)) (g 65) p1.toInt p2.toInt p3.toInt ≠ 0 → x97.toInt = gv_c (g 1 0) (g 2 0) (g 3 0) (g 5 0) (g 54) (g 43) (g 44) (g 45 (53 * p2.toInt.toNat + p3.toInt.toNat)) (g 65) p1.toInt p2.toInt p3.toInt ∧ g 3 0 = g 3 0 ∧ g 35 0 = g 35 0 ∧ g 45 = g 45 ∧ g 60 = g 60 ∧ g 61 = g 61 ∧ g 62 = g 62 ∧ g 63 = g 63 ∧ g 64 = g 64 ∧ g 65 = g 65 ∧ g 66 = g 66 ∧ g 67 = g 67 ∧ g 68 = g 68) from (by have hcd : gv_c (g 1 0) (g 2 0) (g 3 0) (g 5 0) (g 54) (g 43) (g 44) (g 45 (53 * p2.toInt.toNat + p3.toInt.toNat)) (g 65) p1.toInt p2.toInt p3.toInt = -6 := (by unfold gv_c; rw [if_neg (by omega), if_neg (by omega), if_neg (by omega), if_neg (by omega), if_neg (by omega), if_pos (by omega)]); exact ⟨fun q => absurd (hcd.symm.trans q) (by decide), fun _ => ⟨(by rw [hcd]; omega), (rfl), (rfl), (rfl), (rfl), (rfl), (rfl), (rfl), (rfl), (rfl), (rfl), (rfl), (rfl)⟩⟩))⟩, ok2 ht hG⟩, hS.F ht⟩) hS.2.2 dX8_give_120
                    · skip
                      refine lv_aload_n hx hb dX8_give_108 rfl (lv_at hl 3 rfl) ?_
                      refine ty_iconst hx hb (0) dX8_give_109 (by decide) (fun x99 h100 => ?_)
                      refine cI (va_runV (C := RX8) (As := [.int x99]) (rest := []) ⟨hx, hb, hml, hown, hA⟩ (k_X8_countGifts l dC dI dA sz X Γ hU g h0 t_h0 x99   (by omega)) ⟨callB_of 1 hA (al_A wd_3_8) rfl rfl rfl (hA _ wd_1_1) (hA _ wd_3_5) (by decide +kernel) ⟨Nat.le_of_ble_eq_true rfl, Nat.le_of_ble_eq_true rfl⟩, hA _ wd_3_7, hA _ ws_15⟩ ⟨bl, recv_X8 hE hG t_h0, fun U hU9 hW9 => ⟨rfl, by rw [hU9]; exact hG, hE.go hS hU9 hW9⟩⟩ rfl rfl hl.1 rfl (lv_room (Nat.le_of_ble_eq_true rfl)) dX8_give_110 ⟨Nat.zero_le _, Nat.zero_le _⟩) hS (fun x103 u101 H locs w102 hG hS => ?_)
                      obtain ⟨eu104, w102⟩ := w102
                      rw [eu104] at hG
                      rw [show x99.toInt = 0 by omega] at w102
                      refine ty_bipush hx hb (9) dX8_give_113 (by decide) (fun x105 h106 => ?_)
                      refine ty_icmp_lt (tgt := 121) hx hb dX8_give_115 (by decide) (fun c107 => ?_) (fun c107 => ?_)
                      · skip
                        refine lv_aload_n hx hb dX8_give_121 rfl (lv_at hl 3 rfl) ?_
                        refine lv_aload hx hb dX8_give_122 (lv_at hl 2 rfl) ?_
                        refine lv_aload hx hb dX8_give_124 (lv_at hl 1 rfl) ?_
                        refine lv_iload_n hx hb dX8_give_126 rfl (lv_at hl 6 rfl) ?_
                        refine cIB (va_runV (C := RX8) (As := [.ref b5, .ref b11, .int p3]) (rest := []) ⟨hx, hb, hml, hown, hA⟩ (k_X8_addGift l dC dI dA sz X Γ hU g h0 t_h0 b5 (p1.toInt).toNat t_b5 b11 (p2.toInt).toNat t_b11 p3   (by omega) (by omega) (by omega) (by omega)) ⟨callB_of 3 hA (al_A wd_3_12) rfl rfl rfl (hA _ wd_1_1) (hA _ wd_3_9) (by decide +kernel) ⟨Nat.le_of_ble_eq_true rfl, Nat.le_of_ble_eq_true rfl⟩, hA _ wd_3_11, hA _ ws_16⟩ ⟨bl, recv_X8 hE hG t_h0, fun U hU9 hW9 => ⟨rfl, by rw [hU9]; exact hG, hE.go hS hU9 hW9⟩⟩ rfl rfl hl.1 rfl (lv_room (Nat.le_of_ble_eq_true rfl)) dX8_give_127 ⟨Nat.le_of_ble_eq_true rfl, Nat.le_of_ble_eq_true rfl⟩) hS (fun x110 u108 H locs w109 hG hS => ?_)
                        obtain ⟨Γ111, g112⟩ := u108
                        dsimp only at w109 hG
                        obtain ⟨hx113, hU, hB117, hf114, w115, hq118, hq119, hq120, hq121, hq122, hq123, hq124, hq125, hq126, hq127, hq128⟩ := w109
                        have hX129 : ext Γ Γ111 := ext.trans ext.rf hx113
                        replace t_b41 : Γ111 b41 = (4, ((g 45 (53 * (p2.toInt).toNat + p3.toInt.toNat))).toNat) := hx113.two t_b41 (by show (4 : Nat) ≠ 0; decide)
                        replace t_b11 : Γ111 b11 = (2, (p2.toInt).toNat) := hx113.two t_b11 (by show (2 : Nat) ≠ 0; decide)
                        replace t_b5 : Γ111 b5 = (3, (p1.toInt).toNat) := hx113.two t_b5 (by show (3 : Nat) ≠ 0; decide)
                        replace t_h0 : ty Γ111 h0 1 := hx113.one t_h0 (by decide)
                        refine W.widen (k := 1) (n := 10) (by omega) (by omega) ?_
                        exact W.iret (v := x110) hx hb hr (fun t ht hW => ⟨⟨x110, (Γ111, g112), rfl, ⟨hX129, hU, (hB117), (fun c j h3 h35 h45 h60 h61 h62 h63 h64 h65 h66 h67 h68 => by (try dsimp only); rw [hf114 c j h3 h35 h45 h60 h61 h62 h63 h64 h65 h66 h67 h68]), (show (gv_c (g 1 0) (g 2 0) (g 3 0) (g 5 0) (g 54) (g 43) (g 44) (g 45 (53 * p2.toInt.toNat + p3.toInt.toNat)) (g 65) p1.toInt p2.toInt p3.toInt = 0 → x110.toInt = g 3 0 ∧ g112 3 0 = g 3 0 + 1 ∧ g112 35 0 = g 3 0 + 1 ∧ g112 60 = pz_up (g 60) (g 3 0).toNat p1.toInt ∧ g112 61 = pz_up (g 61) (g 3 0).toNat p2.toInt ∧ g112 62 = pz_up (g 62) (g 3 0).toNat p3.toInt ∧ g112 63 = pz_up (g 63) (g 3 0).toNat (g 4 0) ∧ g112 64 = pz_up (g 64) (g 3 0).toNat (wo_f (g 80) (g 81) (g 82) (64 * (g 13 0).toNat) (g 42 p2.toInt.toNat) p3.toInt (p3.toInt - g 5 0)) ∧ g112 65 = pz_up (g 65) (g 3 0).toNat 0 ∧ g112 66 = pz_up (g 66) (g 3 0).toNat (-1) ∧ g112 67 = pz_up (g 67) (g 3 0).toNat (-1) ∧ g112 68 = pz_up (g 68) (g 3 0).toNat (-1) ∧ g112 45 = pz_up (g 45) (53 * p2.toInt.toNat + p3.toInt.toNat) (g 3 0)) ∧ (gv_c (g 1 0) (g 2 0) (g 3 0) (g 5 0) (g 54) (g 43) (g 44) (g 45 (53 * p2.toInt.toNat + p3.toInt.toNat)) (g 65) p1.toInt p2.toInt p3.toInt ≠ 0 → x110.toInt = gv_c (g 1 0) (g 2 0) (g 3 0) (g 5 0) (g 54) (g 43) (g 44) (g 45 (53 * p2.toInt.toNat + p3.toInt.toNat)) (g 65) p1.toInt p2.toInt p3.toInt ∧ g112 3 0 = g 3 0 ∧ g112 35 0 = g 35 0 ∧ g112 45 = g 45 ∧ g112 60 = g 60 ∧ g112 61 = g 61 ∧ g112 62 = g 62 ∧ g112 63 = g 63 ∧ g112 64 = g 64 ∧ g112 65 = g 65 ∧ g112 66 = g 66 ∧ g112 67 = g 67 ∧ g112 68 = g 68) from (by have hcd : gv_c (g 1 0) (g 2 0) (g 3 0) (g 5 0) (g 54) (g 43) (g 44) (g 45 (53 * p2.toInt.toNat + p3.toInt.toNat)) (g 65) p1.toInt p2.toInt p3.toInt = 0 := (by unfold gv_c; rw [if_neg (by omega), if_neg (by omega), if_neg (by omega), if_neg (by omega), if_neg (by omega), if_neg (by omega)]); exact ⟨fun _ => ⟨(by omega), (by omega), (by omega), (by rw [hq119] <;> exact pz_upc (by omega) (by omega)), (by rw [hq120] <;> exact pz_upc (by omega) (by omega)), (by rw [hq121] <;> exact pz_upc (by omega) (by omega)), (by rw [hq122] <;> exact pz_upc (by omega) (by omega)), (by rw [hq123] <;> exact pz_upc (by omega) (by omega)), (by rw [hq124] <;> exact pz_upc (by omega) (by omega)), (by rw [hq125] <;> exact pz_upc (by omega) (by omega)), (by rw [hq126] <;> exact pz_upc (by omega) (by omega)), (by rw [hq127] <;> exact pz_upc (by omega) (by omega)), (by rw [hq128] <;> exact pz_upc (by omega) (by omega))⟩, fun q => absurd hcd q⟩))⟩, ok2 ht hG⟩, hS.F ht⟩) hS.2.2 dX8_give_130
                      · skip
                        refine ty_bipush hx hb (-6) dX8_give_118 (by decide) (fun x130 h131 => ?_)
                        refine W.widen (k := 1) (n := 10) (by omega) (by omega) ?_
                        exact W.iret (v := x130) hx hb hr (fun t ht hW => ⟨⟨x130, (Γ, g), rfl, ⟨ext.rf, hU, (hBd), (fun c j h3 h35 h45 h60 h61 h62 h63 h64 h65 h66 h67 h68 => by rfl), (show (gv_c (g 1 0) (g 2 0) (g 3 0) (g 5 0) (g 54) (g 43) (g 44) (g 45 (53 * p2.toInt.toNat + p3.toInt.toNat)) (g 65) p1.toInt p2.toInt p3.toInt = 0 → x130.toInt = g 3 0 ∧ g 3 0 = g 3 0 + 1 ∧ g 35 0 = g 3 0 + 1 ∧ g 60 = pz_up (g 60) (g 3 0).toNat p1.toInt ∧ g 61 = pz_up (g 61) (g 3 0).toNat p2.toInt ∧ g 62 = pz_up (g 62) (g 3 0).toNat p3.toInt ∧ g 63 = pz_up (g 63) (g 3 0).toNat (g 4 0) ∧ g 64 = pz_up (g 64) (g 3 0).toNat (wo_f (g 80) (g 81) (g 82) (64 * (g 13 0).toNat) (g 42 p2.toInt.toNat) p3.toInt (p3.toInt - g 5 0)) ∧ g 65 = pz_up (g 65) (g 3 0).toNat 0 ∧ g 66 = pz_up (g 66) (g 3 0).toNat (-1) ∧ g 67 = pz_up (g 67) (g 3 0).toNat (-1) ∧ g 68 = pz_up (g 68) (g 3 0).toNat (-1) ∧ g 45 = pz_up (g 45) (53 * p2.toInt.toNat + p3.toInt.toNat) (g 3 0)) ∧ (gv_c (g 1 0) (g 2 0) (g 3 0) (g 5 0) (g 54) (g 43) (g 44) (g 45 (53 * p2.toInt.toNat + p3.toInt.toNat)) (g 65) p1.toInt p2.toInt p3.toInt ≠ 0 → x130.toInt = gv_c (g 1 0) (g 2 0) (g 3 0) (g 5 0) (g 54) (g 43) (g 44) (g 45 (53 * p2.toInt.toNat + p3.toInt.toNat)) (g 65) p1.toInt p2.toInt p3.toInt ∧ g 3 0 = g 3 0 ∧ g 35 0 = g 35 0 ∧ g 45 = g 45 ∧ g 60 = g 60 ∧ g 61 = g 61 ∧ g 62 = g 62 ∧ g 63 = g 63 ∧ g 64 = g 64 ∧ g 65 = g 65 ∧ g 66 = g 66 ∧ g 67 = g 67 ∧ g 68 = g 68) from (by have hcd : gv_c (g 1 0) (g 2 0) (g 3 0) (g 5 0) (g 54) (g 43) (g 44) (g 45 (53 * p2.toInt.toNat + p3.toInt.toNat)) (g 65) p1.toInt p2.toInt p3.toInt = -6 := (by unfold gv_c; rw [if_neg (by omega), if_neg (by omega), if_neg (by omega), if_neg (by omega), if_neg (by omega), if_pos (by omega)]); exact ⟨fun q => absurd (hcd.symm.trans q) (by decide), fun _ => ⟨(by rw [hcd]; omega), (rfl), (rfl), (rfl), (rfl), (rfl), (rfl), (rfl), (rfl), (rfl), (rfl), (rfl), (rfl)⟩⟩))⟩, ok2 ht hG⟩, hS.F ht⟩) hS.2.2 dX8_give_120
                  · skip
                    refine ty_bipush hx hb (-5) dX8_give_95 (by decide) (fun x132 h133 => ?_)
                    refine W.widen (k := 1) (n := 10) (by omega) (by omega) ?_
                    exact W.iret (v := x132) hx hb hr (fun t ht hW => ⟨⟨x132, (Γ, g), rfl, ⟨ext.rf, hU, (hBd), (fun c j h3 h35 h45 h60 h61 h62 h63 h64 h65 h66 h67 h68 => by rfl), (show (gv_c (g 1 0) (g 2 0) (g 3 0) (g 5 0) (g 54) (g 43) (g 44) (g 45 (53 * p2.toInt.toNat + p3.toInt.toNat)) (g 65) p1.toInt p2.toInt p3.toInt = 0 → x132.toInt = g 3 0 ∧ g 3 0 = g 3 0 + 1 ∧ g 35 0 = g 3 0 + 1 ∧ g 60 = pz_up (g 60) (g 3 0).toNat p1.toInt ∧ g 61 = pz_up (g 61) (g 3 0).toNat p2.toInt ∧ g 62 = pz_up (g 62) (g 3 0).toNat p3.toInt ∧ g 63 = pz_up (g 63) (g 3 0).toNat (g 4 0) ∧ g 64 = pz_up (g 64) (g 3 0).toNat (wo_f (g 80) (g 81) (g 82) (64 * (g 13 0).toNat) (g 42 p2.toInt.toNat) p3.toInt (p3.toInt - g 5 0)) ∧ g 65 = pz_up (g 65) (g 3 0).toNat 0 ∧ g 66 = pz_up (g 66) (g 3 0).toNat (-1) ∧ g 67 = pz_up (g 67) (g 3 0).toNat (-1) ∧ g 68 = pz_up (g 68) (g 3 0).toNat (-1) ∧ g 45 = pz_up (g 45) (53 * p2.toInt.toNat + p3.toInt.toNat) (g 3 0)) ∧ (gv_c (g 1 0) (g 2 0) (g 3 0) (g 5 0) (g 54) (g 43) (g 44) (g 45 (53 * p2.toInt.toNat + p3.toInt.toNat)) (g 65) p1.toInt p2.toInt p3.toInt ≠ 0 → x132.toInt = gv_c (g 1 0) (g 2 0) (g 3 0) (g 5 0) (g 54) (g 43) (g 44) (g 45 (53 * p2.toInt.toNat + p3.toInt.toNat)) (g 65) p1.toInt p2.toInt p3.toInt ∧ g 3 0 = g 3 0 ∧ g 35 0 = g 35 0 ∧ g 45 = g 45 ∧ g 60 = g 60 ∧ g 61 = g 61 ∧ g 62 = g 62 ∧ g 63 = g 63 ∧ g 64 = g 64 ∧ g 65 = g 65 ∧ g 66 = g 66 ∧ g 67 = g 67 ∧ g 68 = g 68) from (by have hcd : gv_c (g 1 0) (g 2 0) (g 3 0) (g 5 0) (g 54) (g 43) (g 44) (g 45 (53 * p2.toInt.toNat + p3.toInt.toNat)) (g 65) p1.toInt p2.toInt p3.toInt = -5 := (by unfold gv_c; rw [if_neg (by omega), if_neg (by omega), if_neg (by omega), if_neg (by omega), if_pos (by omega)]); exact ⟨fun q => absurd (hcd.symm.trans q) (by decide), fun _ => ⟨(by rw [hcd]; omega), (rfl), (rfl), (rfl), (rfl), (rfl), (rfl), (rfl), (rfl), (rfl), (rfl), (rfl), (rfl)⟩⟩))⟩, ok2 ht hG⟩, hS.F ht⟩) hS.2.2 dX8_give_97
              · skip
                refine ty_bipush hx hb (-4) dX8_give_69 (by decide) (fun x134 h135 => ?_)
                refine W.widen (k := 1) (n := 10) (by omega) (by omega) ?_
                exact W.iret (v := x134) hx hb hr (fun t ht hW => ⟨⟨x134, (Γ, g), rfl, ⟨ext.rf, hU, (hBd), (fun c j h3 h35 h45 h60 h61 h62 h63 h64 h65 h66 h67 h68 => by rfl), (show (gv_c (g 1 0) (g 2 0) (g 3 0) (g 5 0) (g 54) (g 43) (g 44) (g 45 (53 * p2.toInt.toNat + p3.toInt.toNat)) (g 65) p1.toInt p2.toInt p3.toInt = 0 → x134.toInt = g 3 0 ∧ g 3 0 = g 3 0 + 1 ∧ g 35 0 = g 3 0 + 1 ∧ g 60 = pz_up (g 60) (g 3 0).toNat p1.toInt ∧ g 61 = pz_up (g 61) (g 3 0).toNat p2.toInt ∧ g 62 = pz_up (g 62) (g 3 0).toNat p3.toInt ∧ g 63 = pz_up (g 63) (g 3 0).toNat (g 4 0) ∧ g 64 = pz_up (g 64) (g 3 0).toNat (wo_f (g 80) (g 81) (g 82) (64 * (g 13 0).toNat) (g 42 p2.toInt.toNat) p3.toInt (p3.toInt - g 5 0)) ∧ g 65 = pz_up (g 65) (g 3 0).toNat 0 ∧ g 66 = pz_up (g 66) (g 3 0).toNat (-1) ∧ g 67 = pz_up (g 67) (g 3 0).toNat (-1) ∧ g 68 = pz_up (g 68) (g 3 0).toNat (-1) ∧ g 45 = pz_up (g 45) (53 * p2.toInt.toNat + p3.toInt.toNat) (g 3 0)) ∧ (gv_c (g 1 0) (g 2 0) (g 3 0) (g 5 0) (g 54) (g 43) (g 44) (g 45 (53 * p2.toInt.toNat + p3.toInt.toNat)) (g 65) p1.toInt p2.toInt p3.toInt ≠ 0 → x134.toInt = gv_c (g 1 0) (g 2 0) (g 3 0) (g 5 0) (g 54) (g 43) (g 44) (g 45 (53 * p2.toInt.toNat + p3.toInt.toNat)) (g 65) p1.toInt p2.toInt p3.toInt ∧ g 3 0 = g 3 0 ∧ g 35 0 = g 35 0 ∧ g 45 = g 45 ∧ g 60 = g 60 ∧ g 61 = g 61 ∧ g 62 = g 62 ∧ g 63 = g 63 ∧ g 64 = g 64 ∧ g 65 = g 65 ∧ g 66 = g 66 ∧ g 67 = g 67 ∧ g 68 = g 68) from (by have hcd : gv_c (g 1 0) (g 2 0) (g 3 0) (g 5 0) (g 54) (g 43) (g 44) (g 45 (53 * p2.toInt.toNat + p3.toInt.toNat)) (g 65) p1.toInt p2.toInt p3.toInt = -4 := (by unfold gv_c; rw [if_neg (by omega), if_neg (by omega), if_neg (by omega), if_pos (by omega)]); exact ⟨fun q => absurd (hcd.symm.trans q) (by decide), fun _ => ⟨(by rw [hcd]; omega), (rfl), (rfl), (rfl), (rfl), (rfl), (rfl), (rfl), (rfl), (rfl), (rfl), (rfl), (rfl)⟩⟩))⟩, ok2 ht hG⟩, hS.F ht⟩) hS.2.2 dX8_give_71
            · skip
              refine ty_bipush hx hb (-3) dX8_give_56 (by decide) (fun x136 h137 => ?_)
              refine W.widen (k := 1) (n := 10) (by omega) (by omega) ?_
              exact W.iret (v := x136) hx hb hr (fun t ht hW => ⟨⟨x136, (Γ, g), rfl, ⟨ext.rf, hU, (hBd), (fun c j h3 h35 h45 h60 h61 h62 h63 h64 h65 h66 h67 h68 => by rfl), (show (gv_c (g 1 0) (g 2 0) (g 3 0) (g 5 0) (g 54) (g 43) (g 44) (g 45 (53 * p2.toInt.toNat + p3.toInt.toNat)) (g 65) p1.toInt p2.toInt p3.toInt = 0 → x136.toInt = g 3 0 ∧ g 3 0 = g 3 0 + 1 ∧ g 35 0 = g 3 0 + 1 ∧ g 60 = pz_up (g 60) (g 3 0).toNat p1.toInt ∧ g 61 = pz_up (g 61) (g 3 0).toNat p2.toInt ∧ g 62 = pz_up (g 62) (g 3 0).toNat p3.toInt ∧ g 63 = pz_up (g 63) (g 3 0).toNat (g 4 0) ∧ g 64 = pz_up (g 64) (g 3 0).toNat (wo_f (g 80) (g 81) (g 82) (64 * (g 13 0).toNat) (g 42 p2.toInt.toNat) p3.toInt (p3.toInt - g 5 0)) ∧ g 65 = pz_up (g 65) (g 3 0).toNat 0 ∧ g 66 = pz_up (g 66) (g 3 0).toNat (-1) ∧ g 67 = pz_up (g 67) (g 3 0).toNat (-1) ∧ g 68 = pz_up (g 68) (g 3 0).toNat (-1) ∧ g 45 = pz_up (g 45) (53 * p2.toInt.toNat + p3.toInt.toNat) (g 3 0)) ∧ (gv_c (g 1 0) (g 2 0) (g 3 0) (g 5 0) (g 54) (g 43) (g 44) (g 45 (53 * p2.toInt.toNat + p3.toInt.toNat)) (g 65) p1.toInt p2.toInt p3.toInt ≠ 0 → x136.toInt = gv_c (g 1 0) (g 2 0) (g 3 0) (g 5 0) (g 54) (g 43) (g 44) (g 45 (53 * p2.toInt.toNat + p3.toInt.toNat)) (g 65) p1.toInt p2.toInt p3.toInt ∧ g 3 0 = g 3 0 ∧ g 35 0 = g 35 0 ∧ g 45 = g 45 ∧ g 60 = g 60 ∧ g 61 = g 61 ∧ g 62 = g 62 ∧ g 63 = g 63 ∧ g 64 = g 64 ∧ g 65 = g 65 ∧ g 66 = g 66 ∧ g 67 = g 67 ∧ g 68 = g 68) from (by have hcd : gv_c (g 1 0) (g 2 0) (g 3 0) (g 5 0) (g 54) (g 43) (g 44) (g 45 (53 * p2.toInt.toNat + p3.toInt.toNat)) (g 65) p1.toInt p2.toInt p3.toInt = -3 := (by unfold gv_c; rw [if_neg (by omega), if_neg (by omega), if_pos (by omega)]); exact ⟨fun q => absurd (hcd.symm.trans q) (by decide), fun _ => ⟨(by rw [hcd]; omega), (rfl), (rfl), (rfl), (rfl), (rfl), (rfl), (rfl), (rfl), (rfl), (rfl), (rfl), (rfl)⟩⟩))⟩, ok2 ht hG⟩, hS.F ht⟩) hS.2.2 dX8_give_58
          · skip
            replace hq24 : ¬ ((g 43 (53 * (p2.toInt).toNat + p3.toInt.toNat)) = (p1.toInt)) := fun q => h23 (hq24.mpr q)
            refine ty_bipush hx hb (-2) dX8_give_45 (by decide) (fun x138 h139 => ?_)
            refine W.widen (k := 1) (n := 10) (by omega) (by omega) ?_
            exact W.iret (v := x138) hx hb hr (fun t ht hW => ⟨⟨x138, (Γ, g), rfl, ⟨ext.rf, hU, (hBd), (fun c j h3 h35 h45 h60 h61 h62 h63 h64 h65 h66 h67 h68 => by rfl), (show (gv_c (g 1 0) (g 2 0) (g 3 0) (g 5 0) (g 54) (g 43) (g 44) (g 45 (53 * p2.toInt.toNat + p3.toInt.toNat)) (g 65) p1.toInt p2.toInt p3.toInt = 0 → x138.toInt = g 3 0 ∧ g 3 0 = g 3 0 + 1 ∧ g 35 0 = g 3 0 + 1 ∧ g 60 = pz_up (g 60) (g 3 0).toNat p1.toInt ∧ g 61 = pz_up (g 61) (g 3 0).toNat p2.toInt ∧ g 62 = pz_up (g 62) (g 3 0).toNat p3.toInt ∧ g 63 = pz_up (g 63) (g 3 0).toNat (g 4 0) ∧ g 64 = pz_up (g 64) (g 3 0).toNat (wo_f (g 80) (g 81) (g 82) (64 * (g 13 0).toNat) (g 42 p2.toInt.toNat) p3.toInt (p3.toInt - g 5 0)) ∧ g 65 = pz_up (g 65) (g 3 0).toNat 0 ∧ g 66 = pz_up (g 66) (g 3 0).toNat (-1) ∧ g 67 = pz_up (g 67) (g 3 0).toNat (-1) ∧ g 68 = pz_up (g 68) (g 3 0).toNat (-1) ∧ g 45 = pz_up (g 45) (53 * p2.toInt.toNat + p3.toInt.toNat) (g 3 0)) ∧ (gv_c (g 1 0) (g 2 0) (g 3 0) (g 5 0) (g 54) (g 43) (g 44) (g 45 (53 * p2.toInt.toNat + p3.toInt.toNat)) (g 65) p1.toInt p2.toInt p3.toInt ≠ 0 → x138.toInt = gv_c (g 1 0) (g 2 0) (g 3 0) (g 5 0) (g 54) (g 43) (g 44) (g 45 (53 * p2.toInt.toNat + p3.toInt.toNat)) (g 65) p1.toInt p2.toInt p3.toInt ∧ g 3 0 = g 3 0 ∧ g 35 0 = g 35 0 ∧ g 45 = g 45 ∧ g 60 = g 60 ∧ g 61 = g 61 ∧ g 62 = g 62 ∧ g 63 = g 63 ∧ g 64 = g 64 ∧ g 65 = g 65 ∧ g 66 = g 66 ∧ g 67 = g 67 ∧ g 68 = g 68) from (by have hcd : gv_c (g 1 0) (g 2 0) (g 3 0) (g 5 0) (g 54) (g 43) (g 44) (g 45 (53 * p2.toInt.toNat + p3.toInt.toNat)) (g 65) p1.toInt p2.toInt p3.toInt = -2 := (by unfold gv_c; rw [if_neg (by omega), if_pos (by omega)]); exact ⟨fun q => absurd (hcd.symm.trans q) (by decide), fun _ => ⟨(by rw [hcd]; omega), (rfl), (rfl), (rfl), (rfl), (rfl), (rfl), (rfl), (rfl), (rfl), (rfl), (rfl), (rfl)⟩⟩))⟩, ok2 ht hG⟩, hS.F ht⟩) hS.2.2 dX8_give_47
        · exfalso; omega
      · skip
        refine ty_if_ne (tgt := 33) hx hb dX8_give_28 (by decide) (fun c140 => ?_) (fun c140 => ?_)
        · exfalso; omega
        · skip
          refine ty_iconst hx hb (-1) dX8_give_31 (by decide) (fun x141 h142 => ?_)
          refine W.widen (k := 1) (n := 10) (by omega) (by omega) ?_
          exact W.iret (v := x141) hx hb hr (fun t ht hW => ⟨⟨x141, (Γ, g), rfl, ⟨ext.rf, hU, (hBd), (fun c j h3 h35 h45 h60 h61 h62 h63 h64 h65 h66 h67 h68 => by rfl), (show (gv_c (g 1 0) (g 2 0) (g 3 0) (g 5 0) (g 54) (g 43) (g 44) (g 45 (53 * p2.toInt.toNat + p3.toInt.toNat)) (g 65) p1.toInt p2.toInt p3.toInt = 0 → x141.toInt = g 3 0 ∧ g 3 0 = g 3 0 + 1 ∧ g 35 0 = g 3 0 + 1 ∧ g 60 = pz_up (g 60) (g 3 0).toNat p1.toInt ∧ g 61 = pz_up (g 61) (g 3 0).toNat p2.toInt ∧ g 62 = pz_up (g 62) (g 3 0).toNat p3.toInt ∧ g 63 = pz_up (g 63) (g 3 0).toNat (g 4 0) ∧ g 64 = pz_up (g 64) (g 3 0).toNat (wo_f (g 80) (g 81) (g 82) (64 * (g 13 0).toNat) (g 42 p2.toInt.toNat) p3.toInt (p3.toInt - g 5 0)) ∧ g 65 = pz_up (g 65) (g 3 0).toNat 0 ∧ g 66 = pz_up (g 66) (g 3 0).toNat (-1) ∧ g 67 = pz_up (g 67) (g 3 0).toNat (-1) ∧ g 68 = pz_up (g 68) (g 3 0).toNat (-1) ∧ g 45 = pz_up (g 45) (53 * p2.toInt.toNat + p3.toInt.toNat) (g 3 0)) ∧ (gv_c (g 1 0) (g 2 0) (g 3 0) (g 5 0) (g 54) (g 43) (g 44) (g 45 (53 * p2.toInt.toNat + p3.toInt.toNat)) (g 65) p1.toInt p2.toInt p3.toInt ≠ 0 → x141.toInt = gv_c (g 1 0) (g 2 0) (g 3 0) (g 5 0) (g 54) (g 43) (g 44) (g 45 (53 * p2.toInt.toNat + p3.toInt.toNat)) (g 65) p1.toInt p2.toInt p3.toInt ∧ g 3 0 = g 3 0 ∧ g 35 0 = g 35 0 ∧ g 45 = g 45 ∧ g 60 = g 60 ∧ g 61 = g 61 ∧ g 62 = g 62 ∧ g 63 = g 63 ∧ g 64 = g 64 ∧ g 65 = g 65 ∧ g 66 = g 66 ∧ g 67 = g 67 ∧ g 68 = g 68) from (by have hcd : gv_c (g 1 0) (g 2 0) (g 3 0) (g 5 0) (g 54) (g 43) (g 44) (g 45 (53 * p2.toInt.toNat + p3.toInt.toNat)) (g 65) p1.toInt p2.toInt p3.toInt = -1 := (by unfold gv_c; rw [if_pos (by omega)]); exact ⟨fun q => absurd (hcd.symm.trans q) (by decide), fun _ => ⟨(by rw [hcd]; omega), (rfl), (rfl), (rfl), (rfl), (rfl), (rfl), (rfl), (rfl), (rfl), (rfl), (rfl), (rfl)⟩⟩))⟩, ok2 ht hG⟩, hS.F ht⟩) hS.2.2 dX8_give_32
    · skip
      obtain rfl : r9 = none := rq_no t_r9 (by omega)
      clear n_r9 t_r9
      refine lv_astoreN (lv' := [(5, .null), (4, .ref b5), (0, .ref h0), (1, .int p1), (2, .int p2), (3, .int p3)]) hx hb dX8_give_12 hl (by decide) rfl (fun ls hl => ?_)
      refine lv_aload hx hb dX8_give_14 (lv_at hl 1 rfl) ?_
      refine lv_ifnull hx hb dX8_give_16 ?_
      refine lv_aloadN hx hb dX8_give_19 (lv_at hl 0 rfl) ?_
      refine lv_ifnullN (tgt := 31) hx hb dX8_give_21 (by decide) ?_
      refine ty_iconst hx hb (-1) dX8_give_31 (by decide) (fun x143 h144 => ?_)
      refine W.widen (k := 1) (n := 10) (by omega) (by omega) ?_
      exact W.iret (v := x143) hx hb hr (fun t ht hW => ⟨⟨x143, (Γ, g), rfl, ⟨ext.rf, hU, (hBd), (fun c j h3 h35 h45 h60 h61 h62 h63 h64 h65 h66 h67 h68 => by rfl), (show (gv_c (g 1 0) (g 2 0) (g 3 0) (g 5 0) (g 54) (g 43) (g 44) (g 45 (53 * p2.toInt.toNat + p3.toInt.toNat)) (g 65) p1.toInt p2.toInt p3.toInt = 0 → x143.toInt = g 3 0 ∧ g 3 0 = g 3 0 + 1 ∧ g 35 0 = g 3 0 + 1 ∧ g 60 = pz_up (g 60) (g 3 0).toNat p1.toInt ∧ g 61 = pz_up (g 61) (g 3 0).toNat p2.toInt ∧ g 62 = pz_up (g 62) (g 3 0).toNat p3.toInt ∧ g 63 = pz_up (g 63) (g 3 0).toNat (g 4 0) ∧ g 64 = pz_up (g 64) (g 3 0).toNat (wo_f (g 80) (g 81) (g 82) (64 * (g 13 0).toNat) (g 42 p2.toInt.toNat) p3.toInt (p3.toInt - g 5 0)) ∧ g 65 = pz_up (g 65) (g 3 0).toNat 0 ∧ g 66 = pz_up (g 66) (g 3 0).toNat (-1) ∧ g 67 = pz_up (g 67) (g 3 0).toNat (-1) ∧ g 68 = pz_up (g 68) (g 3 0).toNat (-1) ∧ g 45 = pz_up (g 45) (53 * p2.toInt.toNat + p3.toInt.toNat) (g 3 0)) ∧ (gv_c (g 1 0) (g 2 0) (g 3 0) (g 5 0) (g 54) (g 43) (g 44) (g 45 (53 * p2.toInt.toNat + p3.toInt.toNat)) (g 65) p1.toInt p2.toInt p3.toInt ≠ 0 → x143.toInt = gv_c (g 1 0) (g 2 0) (g 3 0) (g 5 0) (g 54) (g 43) (g 44) (g 45 (53 * p2.toInt.toNat + p3.toInt.toNat)) (g 65) p1.toInt p2.toInt p3.toInt ∧ g 3 0 = g 3 0 ∧ g 35 0 = g 35 0 ∧ g 45 = g 45 ∧ g 60 = g 60 ∧ g 61 = g 61 ∧ g 62 = g 62 ∧ g 63 = g 63 ∧ g 64 = g 64 ∧ g 65 = g 65 ∧ g 66 = g 66 ∧ g 67 = g 67 ∧ g 68 = g 68) from (by have hcd : gv_c (g 1 0) (g 2 0) (g 3 0) (g 5 0) (g 54) (g 43) (g 44) (g 45 (53 * p2.toInt.toNat + p3.toInt.toNat)) (g 65) p1.toInt p2.toInt p3.toInt = -1 := (by unfold gv_c; rw [if_pos (by omega)]); exact ⟨fun q => absurd (hcd.symm.trans q) (by decide), fun _ => ⟨(by rw [hcd]; omega), (rfl), (rfl), (rfl), (rfl), (rfl), (rfl), (rfl), (rfl), (rfl), (rfl), (rfl), (rfl)⟩⟩))⟩, ok2 ht hG⟩, hS.F ht⟩) hS.2.2 dX8_give_32
  · skip
    obtain rfl : r3 = none := rq_no t_r3 (by omega)
    clear n_r3 t_r3
    refine lv_astoreN (lv' := [(4, .null), (0, .ref h0), (1, .int p1), (2, .int p2), (3, .int p3)]) hx hb dX8_give_5 hl (by decide) rfl (fun ls hl => ?_)
    refine lv_aload_n hx hb dX8_give_7 rfl (lv_at hl 1 rfl) ?_
    refine lv_iload_n hx hb dX8_give_8 rfl (lv_at hl 3 rfl) ?_
    refine cQ (va_runV (C := RX8) (As := [.int p2]) (rest := []) ⟨hx, hb, hml, hown, hA⟩ (k_X8_flatAt l dC dI dA sz X Γ hU g h0 t_h0 p2   (by omega)) ⟨callB_of 1 hA (al_A wd_2_48) rfl rfl rfl (hA _ wd_1_1) (hA _ wd_2_45) (by decide +kernel) ⟨Nat.le_of_ble_eq_true rfl, Nat.le_of_ble_eq_true rfl⟩, hA _ wd_2_47, hA _ ws_0⟩ ⟨bl, recv_X8 hE hG t_h0, fun U hU9 hW9 => ⟨rfl, by rw [hU9]; exact hG, hE.go hS hU9 hW9⟩⟩ rfl rfl hl.1 rfl (lv_room (Nat.le_of_ble_eq_true rfl)) dX8_give_9 ⟨Nat.zero_le _, Nat.zero_le _⟩) hS (fun r147 u145 H locs w146 hG hS => ?_)
    obtain ⟨z_r147, n_r147, t_r147, w146⟩ := w146
    obtain ⟨eu148, w146⟩ := w146
    rw [eu148] at hG
    rcases pz_or w146 with w146 | w146
    · skip
      obtain ⟨b149, h150⟩ := Option.ne_none_iff_exists'.mp (fun h9 => absurd (n_r147 h9) (by omega))
      obtain ⟨t_b149, p_b149⟩ := t_r147 b149 h150
      clear t_r147 n_r147
      subst h150
      replace t_b149 : Γ b149 = (2, (p2.toInt).toNat) := by rw [t_b149, show z_r147 = p2.toInt by omega]
      replace p_b149 : 0 ≤ p2.toInt := by omega
      refine lv_astore (lv' := [(5, .ref b149), (4, .null), (0, .ref h0), (1, .int p1), (2, .int p2), (3, .int p3)]) hx hb dX8_give_12 hl (by decide) rfl (fun ls hl => ?_)
      refine lv_aloadN hx hb dX8_give_14 (lv_at hl 1 rfl) ?_
      refine lv_ifnullN (tgt := 31) hx hb dX8_give_16 (by decide) ?_
      refine ty_iconst hx hb (-1) dX8_give_31 (by decide) (fun x151 h152 => ?_)
      refine W.widen (k := 1) (n := 10) (by omega) (by omega) ?_
      exact W.iret (v := x151) hx hb hr (fun t ht hW => ⟨⟨x151, (Γ, g), rfl, ⟨ext.rf, hU, (hBd), (fun c j h3 h35 h45 h60 h61 h62 h63 h64 h65 h66 h67 h68 => by rfl), (show (gv_c (g 1 0) (g 2 0) (g 3 0) (g 5 0) (g 54) (g 43) (g 44) (g 45 (53 * p2.toInt.toNat + p3.toInt.toNat)) (g 65) p1.toInt p2.toInt p3.toInt = 0 → x151.toInt = g 3 0 ∧ g 3 0 = g 3 0 + 1 ∧ g 35 0 = g 3 0 + 1 ∧ g 60 = pz_up (g 60) (g 3 0).toNat p1.toInt ∧ g 61 = pz_up (g 61) (g 3 0).toNat p2.toInt ∧ g 62 = pz_up (g 62) (g 3 0).toNat p3.toInt ∧ g 63 = pz_up (g 63) (g 3 0).toNat (g 4 0) ∧ g 64 = pz_up (g 64) (g 3 0).toNat (wo_f (g 80) (g 81) (g 82) (64 * (g 13 0).toNat) (g 42 p2.toInt.toNat) p3.toInt (p3.toInt - g 5 0)) ∧ g 65 = pz_up (g 65) (g 3 0).toNat 0 ∧ g 66 = pz_up (g 66) (g 3 0).toNat (-1) ∧ g 67 = pz_up (g 67) (g 3 0).toNat (-1) ∧ g 68 = pz_up (g 68) (g 3 0).toNat (-1) ∧ g 45 = pz_up (g 45) (53 * p2.toInt.toNat + p3.toInt.toNat) (g 3 0)) ∧ (gv_c (g 1 0) (g 2 0) (g 3 0) (g 5 0) (g 54) (g 43) (g 44) (g 45 (53 * p2.toInt.toNat + p3.toInt.toNat)) (g 65) p1.toInt p2.toInt p3.toInt ≠ 0 → x151.toInt = gv_c (g 1 0) (g 2 0) (g 3 0) (g 5 0) (g 54) (g 43) (g 44) (g 45 (53 * p2.toInt.toNat + p3.toInt.toNat)) (g 65) p1.toInt p2.toInt p3.toInt ∧ g 3 0 = g 3 0 ∧ g 35 0 = g 35 0 ∧ g 45 = g 45 ∧ g 60 = g 60 ∧ g 61 = g 61 ∧ g 62 = g 62 ∧ g 63 = g 63 ∧ g 64 = g 64 ∧ g 65 = g 65 ∧ g 66 = g 66 ∧ g 67 = g 67 ∧ g 68 = g 68) from (by have hcd : gv_c (g 1 0) (g 2 0) (g 3 0) (g 5 0) (g 54) (g 43) (g 44) (g 45 (53 * p2.toInt.toNat + p3.toInt.toNat)) (g 65) p1.toInt p2.toInt p3.toInt = -1 := (by unfold gv_c; rw [if_pos (by omega)]); exact ⟨fun q => absurd (hcd.symm.trans q) (by decide), fun _ => ⟨(by rw [hcd]; omega), (rfl), (rfl), (rfl), (rfl), (rfl), (rfl), (rfl), (rfl), (rfl), (rfl), (rfl), (rfl)⟩⟩))⟩, ok2 ht hG⟩, hS.F ht⟩) hS.2.2 dX8_give_32
    · skip
      obtain rfl : r147 = none := rq_no t_r147 (by omega)
      clear n_r147 t_r147
      refine lv_astoreN (lv' := [(5, .null), (4, .null), (0, .ref h0), (1, .int p1), (2, .int p2), (3, .int p3)]) hx hb dX8_give_12 hl (by decide) rfl (fun ls hl => ?_)
      refine lv_aloadN hx hb dX8_give_14 (lv_at hl 1 rfl) ?_
      refine lv_ifnullN (tgt := 31) hx hb dX8_give_16 (by decide) ?_
      refine ty_iconst hx hb (-1) dX8_give_31 (by decide) (fun x153 h154 => ?_)
      refine W.widen (k := 1) (n := 10) (by omega) (by omega) ?_
      exact W.iret (v := x153) hx hb hr (fun t ht hW => ⟨⟨x153, (Γ, g), rfl, ⟨ext.rf, hU, (hBd), (fun c j h3 h35 h45 h60 h61 h62 h63 h64 h65 h66 h67 h68 => by rfl), (show (gv_c (g 1 0) (g 2 0) (g 3 0) (g 5 0) (g 54) (g 43) (g 44) (g 45 (53 * p2.toInt.toNat + p3.toInt.toNat)) (g 65) p1.toInt p2.toInt p3.toInt = 0 → x153.toInt = g 3 0 ∧ g 3 0 = g 3 0 + 1 ∧ g 35 0 = g 3 0 + 1 ∧ g 60 = pz_up (g 60) (g 3 0).toNat p1.toInt ∧ g 61 = pz_up (g 61) (g 3 0).toNat p2.toInt ∧ g 62 = pz_up (g 62) (g 3 0).toNat p3.toInt ∧ g 63 = pz_up (g 63) (g 3 0).toNat (g 4 0) ∧ g 64 = pz_up (g 64) (g 3 0).toNat (wo_f (g 80) (g 81) (g 82) (64 * (g 13 0).toNat) (g 42 p2.toInt.toNat) p3.toInt (p3.toInt - g 5 0)) ∧ g 65 = pz_up (g 65) (g 3 0).toNat 0 ∧ g 66 = pz_up (g 66) (g 3 0).toNat (-1) ∧ g 67 = pz_up (g 67) (g 3 0).toNat (-1) ∧ g 68 = pz_up (g 68) (g 3 0).toNat (-1) ∧ g 45 = pz_up (g 45) (53 * p2.toInt.toNat + p3.toInt.toNat) (g 3 0)) ∧ (gv_c (g 1 0) (g 2 0) (g 3 0) (g 5 0) (g 54) (g 43) (g 44) (g 45 (53 * p2.toInt.toNat + p3.toInt.toNat)) (g 65) p1.toInt p2.toInt p3.toInt ≠ 0 → x153.toInt = gv_c (g 1 0) (g 2 0) (g 3 0) (g 5 0) (g 54) (g 43) (g 44) (g 45 (53 * p2.toInt.toNat + p3.toInt.toNat)) (g 65) p1.toInt p2.toInt p3.toInt ∧ g 3 0 = g 3 0 ∧ g 35 0 = g 35 0 ∧ g 45 = g 45 ∧ g 60 = g 60 ∧ g 61 = g 61 ∧ g 62 = g 62 ∧ g 63 = g 63 ∧ g 64 = g 64 ∧ g 65 = g 65 ∧ g 66 = g 66 ∧ g 67 = g 67 ∧ g 68 = g 68) from (by have hcd : gv_c (g 1 0) (g 2 0) (g 3 0) (g 5 0) (g 54) (g 43) (g 44) (g 45 (53 * p2.toInt.toNat + p3.toInt.toNat)) (g 65) p1.toInt p2.toInt p3.toInt = -1 := (by unfold gv_c; rw [if_pos (by omega)]); exact ⟨fun q => absurd (hcd.symm.trans q) (by decide), fun _ => ⟨(by rw [hcd]; omega), (rfl), (rfl), (rfl), (rfl), (rfl), (rfl), (rfl), (rfl), (rfl), (rfl), (rfl), (rfl)⟩⟩))⟩, ok2 ht hG⟩, hS.F ht⟩) hS.2.2 dX8_give_32

set_option maxHeartbeats 4000000 in
set_option maxRecDepth 100000 in
/-- WeekBank.wish:  -/
theorem k_X8_wish (l : Launch) (dC : Nat → ClassId) (dI : Nat → Nat → Nat) (dA : Nat → ClassId) (sz : Nat) (X : va_W) (Γ : ty_G) (hU : Un Γ) (g : gh) (h0 : Nat) (t_h0 : ty Γ h0 1) (p1 : Int32) (p2 : Int32) (p3 : Int32) (p4 : Int32) (p5 : Int32) (g3 : g 3 0 = g 35 0 ∧ 0 ≤ g 3 0 ∧ g 3 0 ≤ 200) (hBd : Bd Γ g) : Met l yX8_wish (.code yX8_wish cX8_wish 7 (Option.some Jvm.ClassFile.FieldType.boolean) :: AL) ({ frames := 2, cells := 1, slots := 4, locals := 44 }) (PCx dC dI dA sz X Γ g [.ref h0, .int p1, .int p2, .int p3, .int p4, .int p5]) (va_Qi (fun (r : Int32) (u : (ty_G × gh)) => ext Γ u.1 ∧ Un u.1 ∧ Bd u.1 u.2 ∧ (∀ c j : Nat, c ≠ 66 → u.2 c j = g c j) ∧ (((0 ≤ p1.toInt ∧ p1.toInt < g 3 0 ∧ g 65 p1.toInt.toNat = 0 ∧ ok_wi p2.toInt p3.toInt p4.toInt p5.toInt) → r.toInt = 1 ∧ u.2 66 = pz_up (g 66) p1.toInt.toNat (wz_c p2.toInt p3.toInt p4.toInt p5.toInt)) ∧ (¬ ((0 ≤ p1.toInt ∧ p1.toInt < g 3 0 ∧ g 65 p1.toInt.toNat = 0 ∧ ok_wi p2.toInt p3.toInt p4.toInt p5.toInt)) → r.toInt = 0 ∧ u.2 66 = g 66))) (okB dC dI dA sz X) (ty_A sz)) 1 4 (ty_A sz) := by
  refine Met.ofW (cc := cX8_wish) (maxL := 7) (ret := (Option.some Jvm.ClassFile.FieldType.boolean)) (by decide) rfl ?_
  intro p e s m args below meth c s₁ B hml hv
  obtain ⟨rfl, hG, hE⟩ := hv
  have hx := B.exec
  have hb := B.bytes
  have hr := B.returns
  have hts := atoms_spec B.pre
  have hA : ∀ w ∈ AL, w.before _ s = true := fun w h => hts w (List.mem_cons_of_mem _ h)
  have hown : s.vm.findClass RX8 = some m.cls := findClass_of_methodNamed B.named
  have hlocks := B.notSynchronized
  have hS : va_S (ty_A sz) s.heap s.heap [] := va_S.rf
  have hl := lv_entry ([.ref h0, .int p1, .int p2, .int p3, .int p4, .int p5]) (n := 7) (Nat.le_of_ble_eq_true rfl)
  rw [lg_entry_eq]
  generalize (lg_sl ([.ref h0, .int p1, .int p2, .int p3, .int p4, .int p5]) ++ List.replicate (7 - (lg_sl ([.ref h0, .int p1, .int p2, .int p3, .int p4, .int p5])).length) Slot.unset).toArray = ls at hl ⊢
  have hl : lv_has ls 7 [(0, .ref h0), (1, .int p1), (2, .int p2), (3, .int p3), (4, .int p4), (5, .int p5)] := hl
  refine lv_aload_n hx hb dX8_wish_0 rfl (lv_at hl 0 rfl) ?_
  refine lv_iload_n hx hb dX8_wish_1 rfl (lv_at hl 1 rfl) ?_
  refine ty_iconst hx hb (0) dX8_wish_2 (by decide) (fun x1 h2 => ?_)
  refine cQ (va_runV (C := RX8) (As := [.int p1, .int x1]) (rest := []) ⟨hx, hb, hml, hown, hA⟩ (k_X8_giftThatIs l dC dI dA sz X Γ hU g h0 t_h0 p1 x1   (by omega)) ⟨callB_of 2 hA (al_A wd_3_72) rfl rfl rfl (hA _ wd_1_1) (hA _ wd_3_69) (by decide +kernel) ⟨Nat.le_of_ble_eq_true rfl, Nat.le_of_ble_eq_true rfl⟩, hA _ wd_3_71, hA _ ws_17⟩ ⟨bl, recv_X8 hE hG t_h0, fun U hU9 hW9 => ⟨rfl, by rw [hU9]; exact hG, hE.go hS hU9 hW9⟩⟩ rfl rfl hl.1 rfl (lv_room (Nat.le_of_ble_eq_true rfl)) dX8_wish_3 ⟨Nat.zero_le _, Nat.zero_le _⟩) hS (fun r5 u3 H locs w4 hG hS => ?_)
  obtain ⟨z_r5, n_r5, t_r5, w4⟩ := w4
  obtain ⟨eu6, w4⟩ := w4
  rw [eu6] at hG
  rcases pz_or w4 with w4 | w4
  · skip
    obtain ⟨b7, h8⟩ := Option.ne_none_iff_exists'.mp (fun h9 => absurd (n_r5 h9) (by omega))
    obtain ⟨t_b7, p_b7⟩ := t_r5 b7 h8
    clear t_r5 n_r5
    subst h8
    replace t_b7 : Γ b7 = (4, (p1.toInt).toNat) := by rw [t_b7, show z_r5 = p1.toInt by omega]
    replace p_b7 : 0 ≤ p1.toInt := by omega
    refine lv_astore (lv' := [(6, .ref b7), (0, .ref h0), (1, .int p1), (2, .int p2), (3, .int p3), (4, .int p4), (5, .int p5)]) hx hb dX8_wish_6 hl (by decide) rfl (fun ls hl => ?_)
    refine lv_aload hx hb dX8_wish_8 (lv_at hl 0 rfl) ?_
    refine lv_ifnull hx hb dX8_wish_10 ?_
    refine lv_iload_n hx hb dX8_wish_13 rfl (lv_at hl 3 rfl) ?_
    refine lv_iload_n hx hb dX8_wish_14 rfl (lv_at hl 4 rfl) ?_
    refine lv_iload hx hb dX8_wish_15 (lv_at hl 5 rfl) ?_
    refine lv_iload hx hb dX8_wish_17 (lv_at hl 6 rfl) ?_
    refine cI (va_runS (As := [.int p2, .int p3, .int p4, .int p5]) (rest := []) ⟨hx, hb, hml, hown, hA⟩ (k_X8_canBeWished l dC dI dA sz X Γ hU g p2 p3 p4 p5   ) ⟨callB_of 4 hA (al_A wd_3_79) rfl rfl rfl (hA _ wd_1_1) (hA _ wd_3_77) (by decide +kernel) ⟨Nat.le_of_ble_eq_true rfl, Nat.le_of_ble_eq_true rfl⟩, hA _ wd_3_78⟩ ⟨bl, fun U hU9 hW9 => ⟨rfl, by rw [hU9]; exact hG, hE.go hS hU9 hW9⟩⟩ rfl rfl hl.1 rfl (lv_room (Nat.le_of_ble_eq_true rfl)) dX8_wish_19 ⟨Nat.zero_le _, Nat.zero_le _⟩) hS (fun x11 u9 H locs w10 hG hS => ?_)
    obtain ⟨eu12, w10⟩ := w10
    rw [eu12] at hG
    rcases pz_or w10 with w10 | w10
    · skip
      refine ty_if_ne (tgt := 27) hx hb dX8_wish_22 (by decide) (fun c13 => ?_) (fun c13 => ?_)
      · skip
        refine lv_aload hx hb dX8_wish_27 (lv_at hl 0 rfl) ?_
        refine new_X7 hx hb hA hE hG hS hown wd_3_80 wd_3_81 wd_1_16 (Nat.le_of_ble_eq_true rfl) (Nat.le_of_ble_eq_true rfl) dX8_wish_29 (fun q14 H z_q14 s_q14 e_q14 hG hS => ?_)
        clear z_q14 s_q14 e_q14
        refine lv_dup hx hb dX8_wish_32 rfl ?_
        refine lv_iload_n hx hb dX8_wish_33 rfl (lv_at hl 3 rfl) ?_
        refine lv_iload_n hx hb dX8_wish_34 rfl (lv_at hl 4 rfl) ?_
        refine lv_iload hx hb dX8_wish_35 (lv_at hl 5 rfl) ?_
        refine lv_iload hx hb dX8_wish_37 (lv_at hl 6 rfl) ?_
        refine cVB (va_runI (As := [.int p2, .int p3, .int p4, .int p5]) (rest := [.ref q14, .ref b7]) ⟨hx, hb, hml, hown, hA⟩ (k_X7_init l dC dI dA sz X Γ hU g q14 p2 p3 p4 p5   (by omega)) ⟨callB_of 4 hA (al_A wd_3_84) rfl rfl rfl (hA _ wd_1_16) (hA _ wd_3_82) (by decide +kernel) ⟨Nat.le_of_ble_eq_true rfl, Nat.le_of_ble_eq_true rfl⟩, rfl, hA _ wd_3_83⟩ ⟨bl, fun U hU9 hW9 => ⟨rfl, by rw [hU9]; exact hG, hE.go hS hU9 hW9⟩⟩ rfl rfl hl.1 rfl (lv_room (Nat.le_of_ble_eq_true rfl)) dX8_wish_39 ⟨Nat.le_of_ble_eq_true rfl, Nat.le_of_ble_eq_true rfl⟩) hS (fun u15 H locs w16 hG hS => ?_)
        obtain ⟨Γ17, g18⟩ := u15
        dsimp only at w16 hG
        obtain ⟨hx19, hU, hN24, t_q14, eu23⟩ := w16
        rw [eu23] at hG
        have hX25 : ext Γ Γ17 := ext.trans ext.rf hx19
        replace t_b7 : Γ17 b7 = (4, (p1.toInt).toNat) := hx19.two t_b7 (by show (4 : Nat) ≠ 0; decide)
        replace t_h0 : ty Γ17 h0 1 := hx19.one t_h0 (by decide)
        refine put_X2_7 (r := some q14) (z := (((wz_c p2.toInt p3.toInt p4.toInt p5.toInt).toNat : Nat) : Int)) hx hb hA hown hE hG hS hU t_b7 wd_3_37 (rq_s t_q14).1 (rq_s t_q14).2 dX8_wish_42 (fun H locs hG hS => ?_)
        refine ty_iconst hx hb (1) dX8_wish_45 (by decide) (fun x26 h27 => ?_)
        have e28 : (gs g 66 (p1.toInt).toNat (((wz_c p2.toInt p3.toInt p4.toInt p5.toInt).toNat : Nat) : Int)) 33 0 = g 33 0 := by rw [gs_c _ _ _ _ (by decide)]
        have e29 : (gs g 66 (p1.toInt).toNat (((wz_c p2.toInt p3.toInt p4.toInt p5.toInt).toNat : Nat) : Int)) 34 0 = g 34 0 := by rw [gs_c _ _ _ _ (by decide)]
        have e30 : (gs g 66 (p1.toInt).toNat (((wz_c p2.toInt p3.toInt p4.toInt p5.toInt).toNat : Nat) : Int)) 35 0 = g 35 0 := by rw [gs_c _ _ _ _ (by decide)]
        refine W.widen (k := 1) (n := 4) (by omega) (by omega) ?_
        exact W.zret (v := x26) hx hb hr (ty_nb (by omega)).1 (fun t ht hW => ⟨⟨x26, (Γ17, (gs g 66 (p1.toInt).toNat (((wz_c p2.toInt p3.toInt p4.toInt p5.toInt).toNat : Nat) : Int))), rfl, ⟨hX25, hU, (Bd.grow hBd hN24 (by dsimp only; omega) (by dsimp only; omega) (by dsimp only; omega) (by dsimp only; exact fun h => absurd h (by decide)) (by dsimp only; exact fun h => absurd h (by decide)) (by dsimp only; exact fun h => absurd h (by decide))), (fun c j h66 => by (try dsimp only); rw [gs_c _ _ _ _ h66]), (show ((0 ≤ p1.toInt ∧ p1.toInt < g 3 0 ∧ g 65 p1.toInt.toNat = 0 ∧ ok_wi p2.toInt p3.toInt p4.toInt p5.toInt) → x26.toInt = 1 ∧ (gs g 66 (p1.toInt).toNat (((wz_c p2.toInt p3.toInt p4.toInt p5.toInt).toNat : Nat) : Int)) 66 = pz_up (g 66) p1.toInt.toNat (wz_c p2.toInt p3.toInt p4.toInt p5.toInt)) ∧ (¬ ((0 ≤ p1.toInt ∧ p1.toInt < g 3 0 ∧ g 65 p1.toInt.toNat = 0 ∧ ok_wi p2.toInt p3.toInt p4.toInt p5.toInt)) → x26.toInt = 0 ∧ (gs g 66 (p1.toInt).toNat (((wz_c p2.toInt p3.toInt p4.toInt p5.toInt).toNat : Nat) : Int)) 66 = g 66) from (⟨fun _ => ⟨(by omega), (by rw [pz_gs]; exact pz_upc rfl (by have h9 := (wz_ok (t := p2.toInt) (f := p3.toInt) (o := p4.toInt) (s := p5.toInt) (by omega) (by omega) (by omega) (by omega)).1; omega))⟩, fun q => absurd (by unfold ok_wi; omega) q⟩))⟩, ok2 ht hG⟩, hS.F ht⟩) hS.2.2 dX8_wish_46
      · exfalso; omega
    · skip
      refine ty_if_ne (tgt := 27) hx hb dX8_wish_22 (by decide) (fun c31 => ?_) (fun c31 => ?_)
      · exfalso; omega
      · skip
        refine ty_iconst hx hb (0) dX8_wish_25 (by decide) (fun x32 h33 => ?_)
        refine W.widen (k := 1) (n := 4) (by omega) (by omega) ?_
        exact W.zret (v := x32) hx hb hr (ty_nb (by omega)).1 (fun t ht hW => ⟨⟨x32, (Γ, g), rfl, ⟨ext.rf, hU, (hBd), (fun c j h66 => by rfl), (show ((0 ≤ p1.toInt ∧ p1.toInt < g 3 0 ∧ g 65 p1.toInt.toNat = 0 ∧ ok_wi p2.toInt p3.toInt p4.toInt p5.toInt) → x32.toInt = 1 ∧ g 66 = pz_up (g 66) p1.toInt.toNat (wz_c p2.toInt p3.toInt p4.toInt p5.toInt)) ∧ (¬ ((0 ≤ p1.toInt ∧ p1.toInt < g 3 0 ∧ g 65 p1.toInt.toNat = 0 ∧ ok_wi p2.toInt p3.toInt p4.toInt p5.toInt)) → x32.toInt = 0 ∧ g 66 = g 66) from (⟨fun q => absurd q (by unfold ok_wi; omega), fun _ => ⟨(by omega), (rfl)⟩⟩))⟩, ok2 ht hG⟩, hS.F ht⟩) hS.2.2 dX8_wish_26
  · skip
    obtain rfl : r5 = none := rq_no t_r5 (by omega)
    clear n_r5 t_r5
    refine lv_astoreN (lv' := [(6, .null), (0, .ref h0), (1, .int p1), (2, .int p2), (3, .int p3), (4, .int p4), (5, .int p5)]) hx hb dX8_wish_6 hl (by decide) rfl (fun ls hl => ?_)
    refine lv_aloadN hx hb dX8_wish_8 (lv_at hl 0 rfl) ?_
    refine lv_ifnullN (tgt := 25) hx hb dX8_wish_10 (by decide) ?_
    refine ty_iconst hx hb (0) dX8_wish_25 (by decide) (fun x34 h35 => ?_)
    refine W.widen (k := 1) (n := 4) (by omega) (by omega) ?_
    exact W.zret (v := x34) hx hb hr (ty_nb (by omega)).1 (fun t ht hW => ⟨⟨x34, (Γ, g), rfl, ⟨ext.rf, hU, (hBd), (fun c j h66 => by rfl), (show ((0 ≤ p1.toInt ∧ p1.toInt < g 3 0 ∧ g 65 p1.toInt.toNat = 0 ∧ ok_wi p2.toInt p3.toInt p4.toInt p5.toInt) → x34.toInt = 1 ∧ g 66 = pz_up (g 66) p1.toInt.toNat (wz_c p2.toInt p3.toInt p4.toInt p5.toInt)) ∧ (¬ ((0 ≤ p1.toInt ∧ p1.toInt < g 3 0 ∧ g 65 p1.toInt.toNat = 0 ∧ ok_wi p2.toInt p3.toInt p4.toInt p5.toInt)) → x34.toInt = 0 ∧ g 66 = g 66) from (⟨fun q => absurd q (by unfold ok_wi; omega), fun _ => ⟨(by omega), (rfl)⟩⟩))⟩, ok2 ht hG⟩, hS.F ht⟩) hS.2.2 dX8_wish_26

set_option maxHeartbeats 4000000 in
set_option maxRecDepth 100000 in
/-- WeekBank.rushWish:  -/
theorem k_X8_rushWish (l : Launch) (dC : Nat → ClassId) (dI : Nat → Nat → Nat) (dA : Nat → ClassId) (sz : Nat) (X : va_W) (Γ : ty_G) (hU : Un Γ) (g : gh) (h0 : Nat) (t_h0 : ty Γ h0 1) (p1 : Int32) (p2 : Int32) (p3 : Int32) (p4 : Int32) (p5 : Int32) (g2 : g 2 0 = g 34 0 ∧ 0 ≤ g 2 0 ∧ g 2 0 ≤ 10) (hBd : Bd Γ g) : Met l yX8_rushWish (.code yX8_rushWish cX8_rushWish 7 (Option.some Jvm.ClassFile.FieldType.boolean) :: AL) ({ frames := 2, cells := 1, slots := 4, locals := 44 }) (PCx dC dI dA sz X Γ g [.ref h0, .int p1, .int p2, .int p3, .int p4, .int p5]) (va_Qi (fun (r : Int32) (u : (ty_G × gh)) => ext Γ u.1 ∧ Un u.1 ∧ Bd u.1 u.2 ∧ (∀ c j : Nat, c ≠ 56 → u.2 c j = g c j) ∧ (((0 ≤ p1.toInt ∧ p1.toInt < g 2 0 ∧ g 54 p1.toInt.toNat = 0 ∧ ok_wi p2.toInt p3.toInt p4.toInt p5.toInt) → r.toInt = 1 ∧ u.2 56 = pz_up (g 56) p1.toInt.toNat (wz_c p2.toInt p3.toInt p4.toInt p5.toInt)) ∧ (¬ ((0 ≤ p1.toInt ∧ p1.toInt < g 2 0 ∧ g 54 p1.toInt.toNat = 0 ∧ ok_wi p2.toInt p3.toInt p4.toInt p5.toInt)) → r.toInt = 0 ∧ u.2 56 = g 56))) (okB dC dI dA sz X) (ty_A sz)) 1 4 (ty_A sz) := by
  refine Met.ofW (cc := cX8_rushWish) (maxL := 7) (ret := (Option.some Jvm.ClassFile.FieldType.boolean)) (by decide) rfl ?_
  intro p e s m args below meth c s₁ B hml hv
  obtain ⟨rfl, hG, hE⟩ := hv
  have hx := B.exec
  have hb := B.bytes
  have hr := B.returns
  have hts := atoms_spec B.pre
  have hA : ∀ w ∈ AL, w.before _ s = true := fun w h => hts w (List.mem_cons_of_mem _ h)
  have hown : s.vm.findClass RX8 = some m.cls := findClass_of_methodNamed B.named
  have hlocks := B.notSynchronized
  have hS : va_S (ty_A sz) s.heap s.heap [] := va_S.rf
  have hl := lv_entry ([.ref h0, .int p1, .int p2, .int p3, .int p4, .int p5]) (n := 7) (Nat.le_of_ble_eq_true rfl)
  rw [lg_entry_eq]
  generalize (lg_sl ([.ref h0, .int p1, .int p2, .int p3, .int p4, .int p5]) ++ List.replicate (7 - (lg_sl ([.ref h0, .int p1, .int p2, .int p3, .int p4, .int p5])).length) Slot.unset).toArray = ls at hl ⊢
  have hl : lv_has ls 7 [(0, .ref h0), (1, .int p1), (2, .int p2), (3, .int p3), (4, .int p4), (5, .int p5)] := hl
  refine lv_aload_n hx hb dX8_rushWish_0 rfl (lv_at hl 0 rfl) ?_
  refine lv_iload_n hx hb dX8_rushWish_1 rfl (lv_at hl 1 rfl) ?_
  refine cQ (va_runV (C := RX8) (As := [.int p1]) (rest := []) ⟨hx, hb, hml, hown, hA⟩ (k_X8_livingOwnerAt l dC dI dA sz X Γ hU g h0 t_h0 p1   (by omega)) ⟨callB_of 1 hA (al_A wd_2_52) rfl rfl rfl (hA _ wd_1_1) (hA _ wd_2_49) (by decide +kernel) ⟨Nat.le_of_ble_eq_true rfl, Nat.le_of_ble_eq_true rfl⟩, hA _ wd_2_51, hA _ ws_1⟩ ⟨bl, recv_X8 hE hG t_h0, fun U hU9 hW9 => ⟨rfl, by rw [hU9]; exact hG, hE.go hS hU9 hW9⟩⟩ rfl rfl hl.1 rfl (lv_room (Nat.le_of_ble_eq_true rfl)) dX8_rushWish_2 ⟨Nat.zero_le _, Nat.zero_le _⟩) hS (fun r3 u1 H locs w2 hG hS => ?_)
  obtain ⟨z_r3, n_r3, t_r3, w2⟩ := w2
  obtain ⟨eu4, w2⟩ := w2
  rw [eu4] at hG
  rcases pz_or w2 with w2 | w2
  · skip
    obtain ⟨b5, h6⟩ := Option.ne_none_iff_exists'.mp (fun h9 => absurd (n_r3 h9) (by omega))
    obtain ⟨t_b5, p_b5⟩ := t_r3 b5 h6
    clear t_r3 n_r3
    subst h6
    replace t_b5 : Γ b5 = (3, (p1.toInt).toNat) := by rw [t_b5, show z_r3 = p1.toInt by omega]
    replace p_b5 : 0 ≤ p1.toInt := by omega
    refine lv_astore (lv' := [(6, .ref b5), (0, .ref h0), (1, .int p1), (2, .int p2), (3, .int p3), (4, .int p4), (5, .int p5)]) hx hb dX8_rushWish_5 hl (by decide) rfl (fun ls hl => ?_)
    refine lv_aload hx hb dX8_rushWish_7 (lv_at hl 0 rfl) ?_
    refine lv_ifnull hx hb dX8_rushWish_9 ?_
    refine lv_iload_n hx hb dX8_rushWish_12 rfl (lv_at hl 3 rfl) ?_
    refine lv_iload_n hx hb dX8_rushWish_13 rfl (lv_at hl 4 rfl) ?_
    refine lv_iload hx hb dX8_rushWish_14 (lv_at hl 5 rfl) ?_
    refine lv_iload hx hb dX8_rushWish_16 (lv_at hl 6 rfl) ?_
    refine cI (va_runS (As := [.int p2, .int p3, .int p4, .int p5]) (rest := []) ⟨hx, hb, hml, hown, hA⟩ (k_X8_canBeWished l dC dI dA sz X Γ hU g p2 p3 p4 p5   ) ⟨callB_of 4 hA (al_A wd_3_79) rfl rfl rfl (hA _ wd_1_1) (hA _ wd_3_77) (by decide +kernel) ⟨Nat.le_of_ble_eq_true rfl, Nat.le_of_ble_eq_true rfl⟩, hA _ wd_3_78⟩ ⟨bl, fun U hU9 hW9 => ⟨rfl, by rw [hU9]; exact hG, hE.go hS hU9 hW9⟩⟩ rfl rfl hl.1 rfl (lv_room (Nat.le_of_ble_eq_true rfl)) dX8_rushWish_18 ⟨Nat.zero_le _, Nat.zero_le _⟩) hS (fun x9 u7 H locs w8 hG hS => ?_)
    obtain ⟨eu10, w8⟩ := w8
    rw [eu10] at hG
    rcases pz_or w8 with w8 | w8
    · skip
      refine ty_if_ne (tgt := 26) hx hb dX8_rushWish_21 (by decide) (fun c11 => ?_) (fun c11 => ?_)
      · skip
        refine lv_aload hx hb dX8_rushWish_26 (lv_at hl 0 rfl) ?_
        refine new_X7 hx hb hA hE hG hS hown wd_3_80 wd_3_81 wd_1_16 (Nat.le_of_ble_eq_true rfl) (Nat.le_of_ble_eq_true rfl) dX8_rushWish_28 (fun q12 H z_q12 s_q12 e_q12 hG hS => ?_)
        clear z_q12 s_q12 e_q12
        refine lv_dup hx hb dX8_rushWish_31 rfl ?_
        refine lv_iload_n hx hb dX8_rushWish_32 rfl (lv_at hl 3 rfl) ?_
        refine lv_iload_n hx hb dX8_rushWish_33 rfl (lv_at hl 4 rfl) ?_
        refine lv_iload hx hb dX8_rushWish_34 (lv_at hl 5 rfl) ?_
        refine lv_iload hx hb dX8_rushWish_36 (lv_at hl 6 rfl) ?_
        refine cVB (va_runI (As := [.int p2, .int p3, .int p4, .int p5]) (rest := [.ref q12, .ref b5]) ⟨hx, hb, hml, hown, hA⟩ (k_X7_init l dC dI dA sz X Γ hU g q12 p2 p3 p4 p5   (by omega)) ⟨callB_of 4 hA (al_A wd_3_84) rfl rfl rfl (hA _ wd_1_16) (hA _ wd_3_82) (by decide +kernel) ⟨Nat.le_of_ble_eq_true rfl, Nat.le_of_ble_eq_true rfl⟩, rfl, hA _ wd_3_83⟩ ⟨bl, fun U hU9 hW9 => ⟨rfl, by rw [hU9]; exact hG, hE.go hS hU9 hW9⟩⟩ rfl rfl hl.1 rfl (lv_room (Nat.le_of_ble_eq_true rfl)) dX8_rushWish_38 ⟨Nat.le_of_ble_eq_true rfl, Nat.le_of_ble_eq_true rfl⟩) hS (fun u13 H locs w14 hG hS => ?_)
        obtain ⟨Γ15, g16⟩ := u13
        dsimp only at w14 hG
        obtain ⟨hx17, hU, hN22, t_q12, eu21⟩ := w14
        rw [eu21] at hG
        have hX23 : ext Γ Γ15 := ext.trans ext.rf hx17
        replace t_b5 : Γ15 b5 = (3, (p1.toInt).toNat) := hx17.two t_b5 (by show (3 : Nat) ≠ 0; decide)
        replace t_h0 : ty Γ15 h0 1 := hx17.one t_h0 (by decide)
        refine put_X3_7 (r := some q12) (z := (((wz_c p2.toInt p3.toInt p4.toInt p5.toInt).toNat : Nat) : Int)) hx hb hA hown hE hG hS hU t_b5 wd_2_23 (rq_s t_q12).1 (rq_s t_q12).2 dX8_rushWish_41 (fun H locs hG hS => ?_)
        refine ty_iconst hx hb (1) dX8_rushWish_44 (by decide) (fun x24 h25 => ?_)
        have e26 : (gs g 56 (p1.toInt).toNat (((wz_c p2.toInt p3.toInt p4.toInt p5.toInt).toNat : Nat) : Int)) 33 0 = g 33 0 := by rw [gs_c _ _ _ _ (by decide)]
        have e27 : (gs g 56 (p1.toInt).toNat (((wz_c p2.toInt p3.toInt p4.toInt p5.toInt).toNat : Nat) : Int)) 34 0 = g 34 0 := by rw [gs_c _ _ _ _ (by decide)]
        have e28 : (gs g 56 (p1.toInt).toNat (((wz_c p2.toInt p3.toInt p4.toInt p5.toInt).toNat : Nat) : Int)) 35 0 = g 35 0 := by rw [gs_c _ _ _ _ (by decide)]
        refine W.widen (k := 1) (n := 4) (by omega) (by omega) ?_
        exact W.zret (v := x24) hx hb hr (ty_nb (by omega)).1 (fun t ht hW => ⟨⟨x24, (Γ15, (gs g 56 (p1.toInt).toNat (((wz_c p2.toInt p3.toInt p4.toInt p5.toInt).toNat : Nat) : Int))), rfl, ⟨hX23, hU, (Bd.grow hBd hN22 (by dsimp only; omega) (by dsimp only; omega) (by dsimp only; omega) (by dsimp only; exact fun h => absurd h (by decide)) (by dsimp only; exact fun h => absurd h (by decide)) (by dsimp only; exact fun h => absurd h (by decide))), (fun c j h56 => by (try dsimp only); rw [gs_c _ _ _ _ h56]), (show ((0 ≤ p1.toInt ∧ p1.toInt < g 2 0 ∧ g 54 p1.toInt.toNat = 0 ∧ ok_wi p2.toInt p3.toInt p4.toInt p5.toInt) → x24.toInt = 1 ∧ (gs g 56 (p1.toInt).toNat (((wz_c p2.toInt p3.toInt p4.toInt p5.toInt).toNat : Nat) : Int)) 56 = pz_up (g 56) p1.toInt.toNat (wz_c p2.toInt p3.toInt p4.toInt p5.toInt)) ∧ (¬ ((0 ≤ p1.toInt ∧ p1.toInt < g 2 0 ∧ g 54 p1.toInt.toNat = 0 ∧ ok_wi p2.toInt p3.toInt p4.toInt p5.toInt)) → x24.toInt = 0 ∧ (gs g 56 (p1.toInt).toNat (((wz_c p2.toInt p3.toInt p4.toInt p5.toInt).toNat : Nat) : Int)) 56 = g 56) from (⟨fun _ => ⟨(by omega), (by rw [pz_gs]; exact pz_upc rfl (by have h9 := (wz_ok (t := p2.toInt) (f := p3.toInt) (o := p4.toInt) (s := p5.toInt) (by omega) (by omega) (by omega) (by omega)).1; omega))⟩, fun q => absurd (by unfold ok_wi; omega) q⟩))⟩, ok2 ht hG⟩, hS.F ht⟩) hS.2.2 dX8_rushWish_45
      · exfalso; omega
    · skip
      refine ty_if_ne (tgt := 26) hx hb dX8_rushWish_21 (by decide) (fun c29 => ?_) (fun c29 => ?_)
      · exfalso; omega
      · skip
        refine ty_iconst hx hb (0) dX8_rushWish_24 (by decide) (fun x30 h31 => ?_)
        refine W.widen (k := 1) (n := 4) (by omega) (by omega) ?_
        exact W.zret (v := x30) hx hb hr (ty_nb (by omega)).1 (fun t ht hW => ⟨⟨x30, (Γ, g), rfl, ⟨ext.rf, hU, (hBd), (fun c j h56 => by rfl), (show ((0 ≤ p1.toInt ∧ p1.toInt < g 2 0 ∧ g 54 p1.toInt.toNat = 0 ∧ ok_wi p2.toInt p3.toInt p4.toInt p5.toInt) → x30.toInt = 1 ∧ g 56 = pz_up (g 56) p1.toInt.toNat (wz_c p2.toInt p3.toInt p4.toInt p5.toInt)) ∧ (¬ ((0 ≤ p1.toInt ∧ p1.toInt < g 2 0 ∧ g 54 p1.toInt.toNat = 0 ∧ ok_wi p2.toInt p3.toInt p4.toInt p5.toInt)) → x30.toInt = 0 ∧ g 56 = g 56) from (⟨fun q => absurd q (by unfold ok_wi; omega), fun _ => ⟨(by omega), (rfl)⟩⟩))⟩, ok2 ht hG⟩, hS.F ht⟩) hS.2.2 dX8_rushWish_25
  · skip
    obtain rfl : r3 = none := rq_no t_r3 (by omega)
    clear n_r3 t_r3
    refine lv_astoreN (lv' := [(6, .null), (0, .ref h0), (1, .int p1), (2, .int p2), (3, .int p3), (4, .int p4), (5, .int p5)]) hx hb dX8_rushWish_5 hl (by decide) rfl (fun ls hl => ?_)
    refine lv_aloadN hx hb dX8_rushWish_7 (lv_at hl 0 rfl) ?_
    refine lv_ifnullN (tgt := 24) hx hb dX8_rushWish_9 (by decide) ?_
    refine ty_iconst hx hb (0) dX8_rushWish_24 (by decide) (fun x32 h33 => ?_)
    refine W.widen (k := 1) (n := 4) (by omega) (by omega) ?_
    exact W.zret (v := x32) hx hb hr (ty_nb (by omega)).1 (fun t ht hW => ⟨⟨x32, (Γ, g), rfl, ⟨ext.rf, hU, (hBd), (fun c j h56 => by rfl), (show ((0 ≤ p1.toInt ∧ p1.toInt < g 2 0 ∧ g 54 p1.toInt.toNat = 0 ∧ ok_wi p2.toInt p3.toInt p4.toInt p5.toInt) → x32.toInt = 1 ∧ g 56 = pz_up (g 56) p1.toInt.toNat (wz_c p2.toInt p3.toInt p4.toInt p5.toInt)) ∧ (¬ ((0 ≤ p1.toInt ∧ p1.toInt < g 2 0 ∧ g 54 p1.toInt.toNat = 0 ∧ ok_wi p2.toInt p3.toInt p4.toInt p5.toInt)) → x32.toInt = 0 ∧ g 56 = g 56) from (⟨fun q => absurd q (by unfold ok_wi; omega), fun _ => ⟨(by omega), (rfl)⟩⟩))⟩, ok2 ht hG⟩, hS.F ht⟩) hS.2.2 dX8_rushWish_25

set_option maxHeartbeats 4000000 in
set_option maxRecDepth 100000 in
/-- WeekBank.bank:  -/
theorem k_X8_bank (l : Launch) (dC : Nat → ClassId) (dI : Nat → Nat → Nat) (dA : Nat → ClassId) (sz : Nat) (X : va_W) (Γ : ty_G) (hU : Un Γ) (g : gh) (h0 : Nat) (t_h0 : ty Γ h0 1) (p1 : Int32) (g3 : g 3 0 = g 35 0 ∧ 0 ≤ g 3 0 ∧ g 3 0 ≤ 200) : Met l yX8_bank (.code yX8_bank cX8_bank 3 (Option.some Jvm.ClassFile.FieldType.int) :: AL) ({ frames := 2, cells := 0, slots := 0, locals := 44 }) (PCx dC dI dA sz X Γ g [.ref h0, .int p1]) (va_Qi (fun (r : Int32) (u : gh) => (∀ c j : Nat, c ≠ 51 → c ≠ 65 → u c j = g c j) ∧ (((0 ≤ p1.toInt ∧ p1.toInt < g 3 0 ∧ g 65 p1.toInt.toNat = 0) → r.toInt = (wa (g 51 (g 60 p1.toInt.toNat).toNat) (g 64 p1.toInt.toNat)) ∧ u 65 = pz_up (g 65) p1.toInt.toNat 2 ∧ u 51 = pz_up (g 51) (g 60 p1.toInt.toNat).toNat (wa (g 51 (g 60 p1.toInt.toNat).toNat) (g 64 p1.toInt.toNat))) ∧ (¬ ((0 ≤ p1.toInt ∧ p1.toInt < g 3 0 ∧ g 65 p1.toInt.toNat = 0)) → r.toInt = -1 ∧ u 65 = g 65 ∧ u 51 = g 51))) (okb dC dI dA sz X Γ) (ty_A sz)) 0 0 (ty_A sz) := by
  refine Met.ofW (cc := cX8_bank) (maxL := 3) (ret := (Option.some Jvm.ClassFile.FieldType.int)) (by decide) rfl ?_
  intro p e s m args below meth c s₁ B hml hv
  obtain ⟨rfl, hG, hE⟩ := hv
  have hx := B.exec
  have hb := B.bytes
  have hr := B.returns
  have hts := atoms_spec B.pre
  have hA : ∀ w ∈ AL, w.before _ s = true := fun w h => hts w (List.mem_cons_of_mem _ h)
  have hown : s.vm.findClass RX8 = some m.cls := findClass_of_methodNamed B.named
  have hlocks := B.notSynchronized
  have hS : va_S (ty_A sz) s.heap s.heap [] := va_S.rf
  have hl := lv_entry ([.ref h0, .int p1]) (n := 3) (Nat.le_of_ble_eq_true rfl)
  rw [lg_entry_eq]
  generalize (lg_sl ([.ref h0, .int p1]) ++ List.replicate (3 - (lg_sl ([.ref h0, .int p1])).length) Slot.unset).toArray = ls at hl ⊢
  have hl : lv_has ls 3 [(0, .ref h0), (1, .int p1)] := hl
  refine lv_aload_n hx hb dX8_bank_0 rfl (lv_at hl 0 rfl) ?_
  refine lv_iload_n hx hb dX8_bank_1 rfl (lv_at hl 1 rfl) ?_
  refine ty_iconst hx hb (0) dX8_bank_2 (by decide) (fun x1 h2 => ?_)
  refine cQ (va_runV (C := RX8) (As := [.int p1, .int x1]) (rest := []) ⟨hx, hb, hml, hown, hA⟩ (k_X8_giftThatIs l dC dI dA sz X Γ hU g h0 t_h0 p1 x1   (by omega)) ⟨callB_of 2 hA (al_A wd_3_72) rfl rfl rfl (hA _ wd_1_1) (hA _ wd_3_69) (by decide +kernel) ⟨Nat.le_of_ble_eq_true rfl, Nat.le_of_ble_eq_true rfl⟩, hA _ wd_3_71, hA _ ws_17⟩ ⟨bl, recv_X8 hE hG t_h0, fun U hU9 hW9 => ⟨rfl, by rw [hU9]; exact hG, hE.go hS hU9 hW9⟩⟩ rfl rfl hl.1 rfl (lv_room (Nat.le_of_ble_eq_true rfl)) dX8_bank_3 ⟨Nat.zero_le _, Nat.zero_le _⟩) hS (fun r5 u3 H locs w4 hG hS => ?_)
  obtain ⟨z_r5, n_r5, t_r5, w4⟩ := w4
  obtain ⟨eu6, w4⟩ := w4
  rw [eu6] at hG
  rcases pz_or w4 with w4 | w4
  · skip
    obtain ⟨b7, h8⟩ := Option.ne_none_iff_exists'.mp (fun h9 => absurd (n_r5 h9) (by omega))
    obtain ⟨t_b7, p_b7⟩ := t_r5 b7 h8
    clear t_r5 n_r5
    subst h8
    replace t_b7 : Γ b7 = (4, (p1.toInt).toNat) := by rw [t_b7, show z_r5 = p1.toInt by omega]
    replace p_b7 : 0 ≤ p1.toInt := by omega
    refine lv_astore_n (lv' := [(2, .ref b7), (0, .ref h0), (1, .int p1)]) hx hb dX8_bank_6 rfl hl (by decide) rfl (fun ls hl => ?_)
    refine lv_aload_n hx hb dX8_bank_7 rfl (lv_at hl 0 rfl) ?_
    refine lv_ifnonnull (tgt := 13) hx hb dX8_bank_8 (by decide) ?_
    refine lv_aload_n hx hb dX8_bank_13 rfl (lv_at hl 0 rfl) ?_
    refine ty_iconst hx hb (2) dX8_bank_14 (by decide) (fun x9 h10 => ?_)
    refine put_X2_6 hx hb hA hown hE hG hS hU t_b7 wd_3_34 dX8_bank_15 (fun H locs hG hS => ?_)
    refine lv_aload_n hx hb dX8_bank_18 rfl (lv_at hl 0 rfl) ?_
    refine get_X2_1 hx hb hA hown hE hG t_b7 wd_3_22 dX8_bank_19 (fun b11 t_b11 p_b11 => ?_)
    rw [gs_c _ _ _ _ (by decide)] at t_b11 p_b11
    refine lv_dup hx hb dX8_bank_22 rfl ?_
    refine get_X3_2 hx hb hA hown hE hG t_b11 wd_2_12 dX8_bank_23 (fun x12 h13 => ?_)
    replace h13 : x12.toInt = g 51 (g 60 (p1.toInt).toNat).toNat := by rw [h13, gs_c _ _ _ _ (by decide)]
    refine lv_aload_n hx hb dX8_bank_26 rfl (lv_at hl 0 rfl) ?_
    refine get_X2_5 hx hb hA hown hE hG t_b7 wd_3_30 dX8_bank_27 (fun x15 h16 => ?_)
    replace h16 : x15.toInt = g 64 (p1.toInt).toNat := by rw [h16, gs_c _ _ _ _ (by decide)]
    refine ty_iadd hx hb dX8_bank_30 (fun x18 h19 => ?_)
    have h20 : x18.toInt = wa (g 51 (g 60 (p1.toInt).toNat).toNat) (g 64 (p1.toInt).toNat) := by rw [ty_wa h19, h13, h16]
    refine put_X3_2 hx hb hA hown hE hG hS hU t_b11 wd_2_12 dX8_bank_31 (fun H locs hG hS => ?_)
    refine lv_aload_n hx hb dX8_bank_34 rfl (lv_at hl 0 rfl) ?_
    refine get_X2_1 hx hb hA hown hE hG t_b7 wd_3_22 dX8_bank_35 (fun b21 t_b21 p_b21 => ?_)
    rw [gs_c _ _ _ _ (by decide), gs_c _ _ _ _ (by decide)] at t_b21 p_b21
    refine get_X3_2 hx hb hA hown hE hG t_b21 wd_2_12 dX8_bank_38 (fun x22 h23 => ?_)
    replace h23 : x22.toInt = x18.toInt := by rw [h23, gs_self]
    exact W.iret (v := x22) hx hb hr (fun t ht hW => ⟨⟨x22, (gs (gs g 65 (p1.toInt).toNat x9.toInt) 51 (g 60 (p1.toInt).toNat).toNat x18.toInt), rfl, ⟨(fun c j h51 h65 => by rw [gs_c _ _ _ _ h51, gs_c _ _ _ _ h65]), (⟨fun _ => ⟨(by omega), (by rw [gs_r _ _ _ (by decide), pz_gs] <;> exact pz_upc (by omega) (by omega)), (by rw [pz_gs, gs_r _ _ _ (by decide)] <;> exact pz_upc (by omega) (by omega))⟩, fun q => absurd (by omega) q⟩)⟩, ok1 ht hG⟩, hS.F ht⟩) hS.2.2 dX8_bank_41
  · skip
    obtain rfl : r5 = none := rq_no t_r5 (by omega)
    clear n_r5 t_r5
    refine lv_astore_nN (lv' := [(2, .null), (0, .ref h0), (1, .int p1)]) hx hb dX8_bank_6 rfl hl (by decide) rfl (fun ls hl => ?_)
    refine lv_aload_nN hx hb dX8_bank_7 rfl (lv_at hl 0 rfl) ?_
    refine lv_ifnonnullN hx hb dX8_bank_8 ?_
    refine ty_iconst hx hb (-1) dX8_bank_11 (by decide) (fun x25 h26 => ?_)
    exact W.iret (v := x25) hx hb hr (fun t ht hW => ⟨⟨x25, g, rfl, ⟨(fun c j h51 h65 => by rfl), (⟨fun q => absurd q (by omega), fun _ => ⟨(by omega), (rfl), (rfl)⟩⟩)⟩, ok1 ht hG⟩, hS.F ht⟩) hS.2.2 dX8_bank_12

set_option maxHeartbeats 4000000 in
set_option maxRecDepth 100000 in
/-- WeekBank.take:  -/
theorem k_X8_take (l : Launch) (dC : Nat → ClassId) (dI : Nat → Nat → Nat) (dA : Nat → ClassId) (sz : Nat) (X : va_W) (Γ : ty_G) (hU : Un Γ) (g : gh) (h0 : Nat) (t_h0 : ty Γ h0 1) (p1 : Int32) (p2 : Int32) (g2 : g 2 0 = g 34 0 ∧ 0 ≤ g 2 0 ∧ g 2 0 ≤ 10) (g3 : g 3 0 = g 35 0 ∧ 0 ≤ g 3 0 ∧ g 3 0 ≤ 200) : Met l yX8_take (.code yX8_take cX8_take 5 (Option.some Jvm.ClassFile.FieldType.int) :: AL) ({ frames := 2, cells := 0, slots := 0, locals := 44 }) (PCx dC dI dA sz X Γ g [.ref h0, .int p1, .int p2]) (va_Qi (fun (r : Int32) (u : gh) => (∀ c j : Nat, c ≠ 51 → c ≠ 65 → c ≠ 68 → u c j = g c j) ∧ ((tk_c (g 2 0) (g 3 0) (g 54) (g 51) (g 65) (g 64) p1.toInt p2.toInt = 0 → r.toInt = (ws (g 51 p1.toInt.toNat) (g 64 p2.toInt.toNat)) ∧ u 65 = pz_up (g 65) p2.toInt.toNat 3 ∧ u 68 = pz_up (g 68) p2.toInt.toNat p1.toInt ∧ u 51 = pz_up (g 51) p1.toInt.toNat (ws (g 51 p1.toInt.toNat) (g 64 p2.toInt.toNat))) ∧ (tk_c (g 2 0) (g 3 0) (g 54) (g 51) (g 65) (g 64) p1.toInt p2.toInt ≠ 0 → r.toInt = tk_c (g 2 0) (g 3 0) (g 54) (g 51) (g 65) (g 64) p1.toInt p2.toInt ∧ u 65 = g 65 ∧ u 68 = g 68 ∧ u 51 = g 51))) (okb dC dI dA sz X Γ) (ty_A sz)) 0 0 (ty_A sz) := by
  refine Met.ofW (cc := cX8_take) (maxL := 5) (ret := (Option.some Jvm.ClassFile.FieldType.int)) (by decide) rfl ?_
  intro p e s m args below meth c s₁ B hml hv
  obtain ⟨rfl, hG, hE⟩ := hv
  have hx := B.exec
  have hb := B.bytes
  have hr := B.returns
  have hts := atoms_spec B.pre
  have hA : ∀ w ∈ AL, w.before _ s = true := fun w h => hts w (List.mem_cons_of_mem _ h)
  have hown : s.vm.findClass RX8 = some m.cls := findClass_of_methodNamed B.named
  have hlocks := B.notSynchronized
  have hS : va_S (ty_A sz) s.heap s.heap [] := va_S.rf
  have hl := lv_entry ([.ref h0, .int p1, .int p2]) (n := 5) (Nat.le_of_ble_eq_true rfl)
  rw [lg_entry_eq]
  generalize (lg_sl ([.ref h0, .int p1, .int p2]) ++ List.replicate (5 - (lg_sl ([.ref h0, .int p1, .int p2])).length) Slot.unset).toArray = ls at hl ⊢
  have hl : lv_has ls 5 [(0, .ref h0), (1, .int p1), (2, .int p2)] := hl
  refine lv_aload_n hx hb dX8_take_0 rfl (lv_at hl 0 rfl) ?_
  refine lv_iload_n hx hb dX8_take_1 rfl (lv_at hl 1 rfl) ?_
  refine cQ (va_runV (C := RX8) (As := [.int p1]) (rest := []) ⟨hx, hb, hml, hown, hA⟩ (k_X8_livingOwnerAt l dC dI dA sz X Γ hU g h0 t_h0 p1   (by omega)) ⟨callB_of 1 hA (al_A wd_2_52) rfl rfl rfl (hA _ wd_1_1) (hA _ wd_2_49) (by decide +kernel) ⟨Nat.le_of_ble_eq_true rfl, Nat.le_of_ble_eq_true rfl⟩, hA _ wd_2_51, hA _ ws_1⟩ ⟨bl, recv_X8 hE hG t_h0, fun U hU9 hW9 => ⟨rfl, by rw [hU9]; exact hG, hE.go hS hU9 hW9⟩⟩ rfl rfl hl.1 rfl (lv_room (Nat.le_of_ble_eq_true rfl)) dX8_take_2 ⟨Nat.zero_le _, Nat.zero_le _⟩) hS (fun r3 u1 H locs w2 hG hS => ?_)
  obtain ⟨z_r3, n_r3, t_r3, w2⟩ := w2
  obtain ⟨eu4, w2⟩ := w2
  rw [eu4] at hG
  rcases pz_or w2 with w2 | w2
  · skip
    obtain ⟨b5, h6⟩ := Option.ne_none_iff_exists'.mp (fun h9 => absurd (n_r3 h9) (by omega))
    obtain ⟨t_b5, p_b5⟩ := t_r3 b5 h6
    clear t_r3 n_r3
    subst h6
    replace t_b5 : Γ b5 = (3, (p1.toInt).toNat) := by rw [t_b5, show z_r3 = p1.toInt by omega]
    replace p_b5 : 0 ≤ p1.toInt := by omega
    refine lv_astore_n (lv' := [(3, .ref b5), (0, .ref h0), (1, .int p1), (2, .int p2)]) hx hb dX8_take_5 rfl hl (by decide) rfl (fun ls hl => ?_)
    refine lv_aload_n hx hb dX8_take_6 rfl (lv_at hl 1 rfl) ?_
    refine lv_iload_n hx hb dX8_take_7 rfl (lv_at hl 3 rfl) ?_
    refine ty_iconst hx hb (2) dX8_take_8 (by decide) (fun x7 h8 => ?_)
    refine cQ (va_runV (C := RX8) (As := [.int p2, .int x7]) (rest := []) ⟨hx, hb, hml, hown, hA⟩ (k_X8_giftThatIs l dC dI dA sz X Γ hU g h0 t_h0 p2 x7   (by omega)) ⟨callB_of 2 hA (al_A wd_3_72) rfl rfl rfl (hA _ wd_1_1) (hA _ wd_3_69) (by decide +kernel) ⟨Nat.le_of_ble_eq_true rfl, Nat.le_of_ble_eq_true rfl⟩, hA _ wd_3_71, hA _ ws_17⟩ ⟨bl, recv_X8 hE hG t_h0, fun U hU9 hW9 => ⟨rfl, by rw [hU9]; exact hG, hE.go hS hU9 hW9⟩⟩ rfl rfl hl.1 rfl (lv_room (Nat.le_of_ble_eq_true rfl)) dX8_take_9 ⟨Nat.zero_le _, Nat.zero_le _⟩) hS (fun r11 u9 H locs w10 hG hS => ?_)
    obtain ⟨z_r11, n_r11, t_r11, w10⟩ := w10
    obtain ⟨eu12, w10⟩ := w10
    rw [eu12] at hG
    rcases pz_or w10 with w10 | w10
    · skip
      obtain ⟨b13, h14⟩ := Option.ne_none_iff_exists'.mp (fun h9 => absurd (n_r11 h9) (by omega))
      obtain ⟨t_b13, p_b13⟩ := t_r11 b13 h14
      clear t_r11 n_r11
      subst h14
      replace t_b13 : Γ b13 = (4, (p2.toInt).toNat) := by rw [t_b13, show z_r11 = p2.toInt by omega]
      replace p_b13 : 0 ≤ p2.toInt := by omega
      refine lv_astore (lv' := [(4, .ref b13), (3, .ref b5), (0, .ref h0), (1, .int p1), (2, .int p2)]) hx hb dX8_take_12 hl (by decide) rfl (fun ls hl => ?_)
      refine lv_aload_n hx hb dX8_take_14 rfl (lv_at hl 1 rfl) ?_
      refine lv_ifnull hx hb dX8_take_15 ?_
      refine lv_aload hx hb dX8_take_18 (lv_at hl 0 rfl) ?_
      refine lv_ifnonnull (tgt := 25) hx hb dX8_take_20 (by decide) ?_
      refine lv_aload_n hx hb dX8_take_25 rfl (lv_at hl 1 rfl) ?_
      refine get_X3_2 hx hb hA hown hE hG t_b5 wd_2_12 dX8_take_26 (fun x15 h16 => ?_)
      refine lv_aload hx hb dX8_take_29 (lv_at hl 0 rfl) ?_
      refine get_X2_5 hx hb hA hown hE hG t_b13 wd_3_30 dX8_take_31 (fun x18 h19 => ?_)
      refine ty_icmp_ge (tgt := 40) hx hb dX8_take_34 (by decide) (fun c21 => ?_) (fun c21 => ?_)
      · skip
        refine lv_aload hx hb dX8_take_40 (lv_at hl 0 rfl) ?_
        refine lv_aload_n hx hb dX8_take_42 rfl (lv_at hl 1 rfl) ?_
        refine cV (va_runV (C := RX2) (As := [.ref b5]) (rest := []) ⟨hx, hb, hml, hown, hA⟩ (k_X2_goTo l dC dI dA sz X Γ hU g b13 (p2.toInt).toNat t_b13 b5 (p1.toInt).toNat t_b5   ) ⟨callB_of 1 hA (al_A wd_3_194) rfl rfl rfl (hA _ wd_1_15) (hA _ wd_3_191) (by decide +kernel) ⟨Nat.le_of_ble_eq_true rfl, Nat.le_of_ble_eq_true rfl⟩, hA _ wd_3_192, hA _ wd_3_193⟩ ⟨bl, recv_X2 hE hG (by rw [t_b13]), fun U hU9 hW9 => ⟨rfl, by rw [hU9]; exact hG, hE.go hS hU9 hW9⟩⟩ rfl rfl hl.1 rfl (lv_room (Nat.le_of_ble_eq_true rfl)) dX8_take_43 ⟨Nat.zero_le _, Nat.zero_le _⟩) hS (fun u22 H locs w23 hG hS => ?_)
        obtain ⟨hf27, hq24, hq25, hq26⟩ := w23
        refine lv_aload_n hx hb dX8_take_46 rfl (lv_at hl 1 rfl) ?_
        refine get_X3_2 hx hb hA hown hE hG t_b5 wd_2_12 dX8_take_47 (fun x28 h29 => ?_)
        exact W.iret (v := x28) hx hb hr (fun t ht hW => ⟨⟨x28, u22, rfl, ⟨(fun c j h51 h65 h68 => by rw [hf27 c j h51 h65 h68]), (by have hcd : tk_c (g 2 0) (g 3 0) (g 54) (g 51) (g 65) (g 64) p1.toInt p2.toInt = 0 := (by unfold tk_c; rw [if_neg (by omega), if_neg (by omega)]); exact ⟨fun _ => ⟨(by rw [show x28.toInt = u22 51 p1.toInt.toNat by omega, hq26]; exact pz_up_s), (by rw [hq24] <;> exact pz_upc (by omega) (by omega)), (by rw [hq25] <;> exact pz_upc (by omega) (by omega)), (by rw [hq26] <;> exact pz_upc (by omega) (by omega))⟩, fun q => absurd hcd q⟩)⟩, ok1 ht hG⟩, hS.F ht⟩) hS.2.2 dX8_take_50
      · skip
        refine ty_bipush hx hb (-2) dX8_take_37 (by decide) (fun x31 h32 => ?_)
        exact W.iret (v := x31) hx hb hr (fun t ht hW => ⟨⟨x31, g, rfl, ⟨(fun c j h51 h65 h68 => by rfl), (by have hcd : tk_c (g 2 0) (g 3 0) (g 54) (g 51) (g 65) (g 64) p1.toInt p2.toInt = -2 := (by unfold tk_c; rw [if_neg (by omega), if_pos (by omega)]); exact ⟨fun q => absurd (hcd.symm.trans q) (by decide), fun _ => ⟨(by rw [hcd]; omega), (rfl), (rfl), (rfl)⟩⟩)⟩, ok1 ht hG⟩, hS.F ht⟩) hS.2.2 dX8_take_39
    · skip
      obtain rfl : r11 = none := rq_no t_r11 (by omega)
      clear n_r11 t_r11
      refine lv_astoreN (lv' := [(4, .null), (3, .ref b5), (0, .ref h0), (1, .int p1), (2, .int p2)]) hx hb dX8_take_12 hl (by decide) rfl (fun ls hl => ?_)
      refine lv_aload_n hx hb dX8_take_14 rfl (lv_at hl 1 rfl) ?_
      refine lv_ifnull hx hb dX8_take_15 ?_
      refine lv_aloadN hx hb dX8_take_18 (lv_at hl 0 rfl) ?_
      refine lv_ifnonnullN hx hb dX8_take_20 ?_
      refine ty_iconst hx hb (-1) dX8_take_23 (by decide) (fun x33 h34 => ?_)
      exact W.iret (v := x33) hx hb hr (fun t ht hW => ⟨⟨x33, g, rfl, ⟨(fun c j h51 h65 h68 => by rfl), (by have hcd : tk_c (g 2 0) (g 3 0) (g 54) (g 51) (g 65) (g 64) p1.toInt p2.toInt = -1 := (by unfold tk_c; rw [if_pos (by omega)]); exact ⟨fun q => absurd (hcd.symm.trans q) (by decide), fun _ => ⟨(by rw [hcd]; omega), (rfl), (rfl), (rfl)⟩⟩)⟩, ok1 ht hG⟩, hS.F ht⟩) hS.2.2 dX8_take_24
  · skip
    obtain rfl : r3 = none := rq_no t_r3 (by omega)
    clear n_r3 t_r3
    refine lv_astore_nN (lv' := [(3, .null), (0, .ref h0), (1, .int p1), (2, .int p2)]) hx hb dX8_take_5 rfl hl (by decide) rfl (fun ls hl => ?_)
    refine lv_aload_n hx hb dX8_take_6 rfl (lv_at hl 1 rfl) ?_
    refine lv_iload_n hx hb dX8_take_7 rfl (lv_at hl 3 rfl) ?_
    refine ty_iconst hx hb (2) dX8_take_8 (by decide) (fun x35 h36 => ?_)
    refine cQ (va_runV (C := RX8) (As := [.int p2, .int x35]) (rest := []) ⟨hx, hb, hml, hown, hA⟩ (k_X8_giftThatIs l dC dI dA sz X Γ hU g h0 t_h0 p2 x35   (by omega)) ⟨callB_of 2 hA (al_A wd_3_72) rfl rfl rfl (hA _ wd_1_1) (hA _ wd_3_69) (by decide +kernel) ⟨Nat.le_of_ble_eq_true rfl, Nat.le_of_ble_eq_true rfl⟩, hA _ wd_3_71, hA _ ws_17⟩ ⟨bl, recv_X8 hE hG t_h0, fun U hU9 hW9 => ⟨rfl, by rw [hU9]; exact hG, hE.go hS hU9 hW9⟩⟩ rfl rfl hl.1 rfl (lv_room (Nat.le_of_ble_eq_true rfl)) dX8_take_9 ⟨Nat.zero_le _, Nat.zero_le _⟩) hS (fun r39 u37 H locs w38 hG hS => ?_)
    obtain ⟨z_r39, n_r39, t_r39, w38⟩ := w38
    obtain ⟨eu40, w38⟩ := w38
    rw [eu40] at hG
    rcases pz_or w38 with w38 | w38
    · skip
      obtain ⟨b41, h42⟩ := Option.ne_none_iff_exists'.mp (fun h9 => absurd (n_r39 h9) (by omega))
      obtain ⟨t_b41, p_b41⟩ := t_r39 b41 h42
      clear t_r39 n_r39
      subst h42
      replace t_b41 : Γ b41 = (4, (p2.toInt).toNat) := by rw [t_b41, show z_r39 = p2.toInt by omega]
      replace p_b41 : 0 ≤ p2.toInt := by omega
      refine lv_astore (lv' := [(4, .ref b41), (3, .null), (0, .ref h0), (1, .int p1), (2, .int p2)]) hx hb dX8_take_12 hl (by decide) rfl (fun ls hl => ?_)
      refine lv_aload_nN hx hb dX8_take_14 rfl (lv_at hl 1 rfl) ?_
      refine lv_ifnullN (tgt := 23) hx hb dX8_take_15 (by decide) ?_
      refine ty_iconst hx hb (-1) dX8_take_23 (by decide) (fun x43 h44 => ?_)
      exact W.iret (v := x43) hx hb hr (fun t ht hW => ⟨⟨x43, g, rfl, ⟨(fun c j h51 h65 h68 => by rfl), (by have hcd : tk_c (g 2 0) (g 3 0) (g 54) (g 51) (g 65) (g 64) p1.toInt p2.toInt = -1 := (by unfold tk_c; rw [if_pos (by omega)]); exact ⟨fun q => absurd (hcd.symm.trans q) (by decide), fun _ => ⟨(by rw [hcd]; omega), (rfl), (rfl), (rfl)⟩⟩)⟩, ok1 ht hG⟩, hS.F ht⟩) hS.2.2 dX8_take_24
    · skip
      obtain rfl : r39 = none := rq_no t_r39 (by omega)
      clear n_r39 t_r39
      refine lv_astoreN (lv' := [(4, .null), (3, .null), (0, .ref h0), (1, .int p1), (2, .int p2)]) hx hb dX8_take_12 hl (by decide) rfl (fun ls hl => ?_)
      refine lv_aload_nN hx hb dX8_take_14 rfl (lv_at hl 1 rfl) ?_
      refine lv_ifnullN (tgt := 23) hx hb dX8_take_15 (by decide) ?_
      refine ty_iconst hx hb (-1) dX8_take_23 (by decide) (fun x45 h46 => ?_)
      exact W.iret (v := x45) hx hb hr (fun t ht hW => ⟨⟨x45, g, rfl, ⟨(fun c j h51 h65 h68 => by rfl), (by have hcd : tk_c (g 2 0) (g 3 0) (g 54) (g 51) (g 65) (g 64) p1.toInt p2.toInt = -1 := (by unfold tk_c; rw [if_pos (by omega)]); exact ⟨fun q => absurd (hcd.symm.trans q) (by decide), fun _ => ⟨(by rw [hcd]; omega), (rfl), (rfl), (rfl)⟩⟩)⟩, ok1 ht hG⟩, hS.F ht⟩) hS.2.2 dX8_take_24

set_option maxHeartbeats 4000000 in
set_option maxRecDepth 100000 in
/-- WeekBank.weeks:  -/
theorem k_X8_weeks (l : Launch) (dC : Nat → ClassId) (dI : Nat → Nat → Nat) (dA : Nat → ClassId) (sz : Nat) (X : va_W) (Γ : ty_G) (hU : Un Γ) (g : gh) (h0 : Nat) (t_h0 : ty Γ h0 1) (p1 : Int32) (g3 : g 3 0 = g 35 0 ∧ 0 ≤ g 3 0 ∧ g 3 0 ≤ 200) (g5 : 0 ≤ g 5 0 ∧ g 5 0 ≤ 52) : Met l yX8_weeks (.code yX8_weeks cX8_weeks 2 (Option.some Jvm.ClassFile.FieldType.int) :: AL) ({ frames := 1, cells := 0, slots := 0, locals := 24 }) (PCx dC dI dA sz X Γ g [.ref h0, .int p1]) (va_Qi (fun (r : Int32) (u : gh) => (∀ c j : Nat, c ≠ 5 → c ≠ 65 → u c j = g c j) ∧ ((1 ≤ p1.toInt ∧ p1.toInt ≤ 52 - g 5 0 → r.toInt = g 5 0 + p1.toInt ∧ u 5 0 = r.toInt) ∧ (¬ (1 ≤ p1.toInt ∧ p1.toInt ≤ 52 - g 5 0) → r.toInt = -1 ∧ u 5 0 = g 5 0)) ∧ ((1 ≤ p1.toInt ∧ p1.toInt ≤ 52 - g 5 0 → u 65 = eu_f (g 65) (g 62) (g 5 0 + p1.toInt) (g 3 0).toNat) ∧ (¬ (1 ≤ p1.toInt ∧ p1.toInt ≤ 52 - g 5 0) → u 65 = g 65))) (okb dC dI dA sz X Γ) (ty_A sz)) 0 0 (ty_A sz) := by
  refine Met.ofW (cc := cX8_weeks) (maxL := 2) (ret := (Option.some Jvm.ClassFile.FieldType.int)) (by decide) rfl ?_
  intro p e s m args below meth c s₁ B hml hv
  obtain ⟨rfl, hG, hE⟩ := hv
  have hx := B.exec
  have hb := B.bytes
  have hr := B.returns
  have hts := atoms_spec B.pre
  have hA : ∀ w ∈ AL, w.before _ s = true := fun w h => hts w (List.mem_cons_of_mem _ h)
  have hown : s.vm.findClass RX8 = some m.cls := findClass_of_methodNamed B.named
  have hlocks := B.notSynchronized
  have hS : va_S (ty_A sz) s.heap s.heap [] := va_S.rf
  have hl := lv_entry ([.ref h0, .int p1]) (n := 2) (Nat.le_of_ble_eq_true rfl)
  rw [lg_entry_eq]
  generalize (lg_sl ([.ref h0, .int p1]) ++ List.replicate (2 - (lg_sl ([.ref h0, .int p1])).length) Slot.unset).toArray = ls at hl ⊢
  have hl : lv_has ls 2 [(0, .ref h0), (1, .int p1)] := hl
  refine lv_iload_n hx hb dX8_weeks_0 rfl (lv_at hl 1 rfl) ?_
  refine ty_iconst hx hb (1) dX8_weeks_1 (by decide) (fun x1 h2 => ?_)
  refine ty_icmp_lt (tgt := 16) hx hb dX8_weeks_2 (by decide) (fun c3 => ?_) (fun c3 => ?_)
  · skip
    refine ty_iconst hx hb (-1) dX8_weeks_16 (by decide) (fun x4 h5 => ?_)
    exact W.iret (v := x4) hx hb hr (fun t ht hW => ⟨⟨x4, g, rfl, ⟨(fun c j h5 h65 => by rfl), (by omega), (⟨fun q => absurd q (by omega), fun _ => rfl⟩)⟩, ok1 ht hG⟩, hS.F ht⟩) hS.2.2 dX8_weeks_17
  · skip
    refine lv_iload_n hx hb dX8_weeks_5 rfl (lv_at hl 1 rfl) ?_
    refine ty_bipush hx hb (52) dX8_weeks_6 (by decide) (fun x6 h7 => ?_)
    refine lv_aload_n hx hb dX8_weeks_8 rfl (lv_at hl 0 rfl) ?_
    refine get_X8_10 hx hb hA hown hE hG t_h0 wd_1_167 dX8_weeks_9 (fun x8 h9 => ?_)
    refine ty_isub hx hb dX8_weeks_12 (fun x11 h12 => ?_)
    try have h13 : x11.toInt = x6.toInt - x8.toInt := ty_sub h12 (by omega) (by omega)
    refine ty_icmp_le (tgt := 18) hx hb dX8_weeks_13 (by decide) (fun c14 => ?_) (fun c14 => ?_)
    · skip
      refine lv_aload_n hx hb dX8_weeks_18 rfl (lv_at hl 0 rfl) ?_
      refine lv_dup hx hb dX8_weeks_19 rfl ?_
      refine get_X8_10 hx hb hA hown hE hG t_h0 wd_1_167 dX8_weeks_20 (fun x15 h16 => ?_)
      refine lv_iload_n hx hb dX8_weeks_23 rfl (lv_at hl 1 rfl) ?_
      refine ty_iadd hx hb dX8_weeks_24 (fun x18 h19 => ?_)
      try have h20 : x18.toInt = x15.toInt + p1.toInt := ty_add h19 (by omega) (by omega)
      refine put_X8_10 hx hb hA hown hE hG hS hU t_h0 wd_1_167 dX8_weeks_25 (fun H locs hG hS => ?_)
      refine lv_aload_n hx hb dX8_weeks_28 rfl (lv_at hl 0 rfl) ?_
      refine lv_aload_n hx hb dX8_weeks_29 rfl (lv_at hl 0 rfl) ?_
      refine get_X8_10 hx hb hA hown hE hG t_h0 wd_1_167 dX8_weeks_30 (fun x21 h22 => ?_)
      replace h22 : x21.toInt = x18.toInt := by rw [h22, gs_self]
      have e24 : (gs g 5 0 x18.toInt) 3 0 = g 3 0 := by rw [gs_c _ _ _ _ (by decide)]
      have e25 : (gs g 5 0 x18.toInt) 35 0 = g 35 0 := by rw [gs_c _ _ _ _ (by decide)]
      refine cV (va_runV (C := RX8) (As := [.int x21]) (rest := []) ⟨hx, hb, hml, hown, hA⟩ (k_X8_endUnusedGifts l dC dI dA sz X Γ hU (gs g 5 0 x18.toInt) h0 t_h0 x21   (by omega)) ⟨callB_of 1 hA (al_A wd_3_224) rfl rfl rfl (hA _ wd_1_1) (hA _ wd_3_221) (by decide +kernel) ⟨Nat.le_of_ble_eq_true rfl, Nat.le_of_ble_eq_true rfl⟩, hA _ wd_3_223, hA _ ws_30⟩ ⟨bl, recv_X8 hE hG t_h0, fun U hU9 hW9 => ⟨rfl, by rw [hU9]; exact hG, hE.go hS hU9 hW9⟩⟩ rfl rfl hl.1 rfl (lv_room (Nat.le_of_ble_eq_true rfl)) dX8_weeks_33 ⟨Nat.zero_le _, Nat.zero_le _⟩) hS (fun u26 H locs w27 hG hS => ?_)
      obtain ⟨hf29, hq28⟩ := w27
      have hn30 : (gs g 5 0 x18.toInt) 65 = (g 65) := by rw [gs_r _ _ _ (by decide)]
      rw [hn30] at hq28
      have hn31 : (gs g 5 0 x18.toInt) 62 = (g 62) := by rw [gs_r _ _ _ (by decide)]
      rw [hn31] at hq28
      have hn32 : (gs g 5 0 x18.toInt) 3 0 = g 3 0 := by rw [gs_c _ _ _ _ (by decide)]
      try rw [hn32] at hq28
      refine lv_aload_n hx hb dX8_weeks_36 rfl (lv_at hl 0 rfl) ?_
      refine get_X8_10 hx hb hA hown hE hG t_h0 wd_1_167 dX8_weeks_37 (fun x33 h34 => ?_)
      have hk36 : u26 5 0 = (gs g 5 0 x18.toInt) 5 0 := hf29 5 0 (by decide)
      replace hk36 : u26 5 0 = x18.toInt := by rw [hk36, gs_self]
      exact W.iret (v := x33) hx hb hr (fun t ht hW => ⟨⟨x33, u26, rfl, ⟨(fun c j h5 h65 => by rw [hf29 c j h65, gs_c _ _ _ _ h5]), (by omega), (⟨fun _ => by rw [hq28] <;> exact congrArg (fun z => eu_f (g 65) (g 62) z (g 3 0).toNat) (by omega), fun q => absurd (by omega) q⟩)⟩, ok1 ht hG⟩, hS.F ht⟩) hS.2.2 dX8_weeks_40
    · skip
      refine ty_iconst hx hb (-1) dX8_weeks_16 (by decide) (fun x37 h38 => ?_)
      exact W.iret (v := x37) hx hb hr (fun t ht hW => ⟨⟨x37, g, rfl, ⟨(fun c j h5 h65 => by rfl), (by omega), (⟨fun q => absurd q (by omega), fun _ => rfl⟩)⟩, ok1 ht hG⟩, hS.F ht⟩) hS.2.2 dX8_weeks_17

set_option maxHeartbeats 4000000 in
set_option maxRecDepth 100000 in
/-- WeekBank.year:  -/
theorem k_X8_year (l : Launch) (dC : Nat → ClassId) (dI : Nat → Nat → Nat) (dA : Nat → ClassId) (sz : Nat) (X : va_W) (Γ : ty_G) (hU : Un Γ) (g : gh) (h0 : Nat) (t_h0 : ty Γ h0 1) (g1 : g 1 0 = g 33 0 ∧ 0 ≤ g 1 0 ∧ g 1 0 ≤ 6) (g3 : g 3 0 = g 35 0 ∧ 0 ≤ g 3 0 ∧ g 3 0 ≤ 200) (f7 : 0 ≤ g 4 0 ∧ g 4 0 ≤ 100000) : Met l yX8_year (.code yX8_year cX8_year 2 (Option.some Jvm.ClassFile.FieldType.int) :: AL) ({ frames := 1, cells := 0, slots := 0, locals := 24 }) (PCx dC dI dA sz X Γ g [.ref h0]) (va_Qi (fun (r : Int32) (u : gh) => (∀ c j : Nat, c ≠ 4 → c ≠ 5 → c ≠ 44 → c ≠ 45 → c ≠ 65 → u c j = g c j) ∧ ((r.toInt = g 4 0 + 1) ∧ (u 4 0 = g 4 0 + 1) ∧ (u 5 0 = 0)) ∧ (u 65 = eu_f (g 65) (g 62) 52 (g 3 0).toNat) ∧ (u 44 = fz (g 44) 0 0 (53 * (g 1 0).toNat)) ∧ (u 45 = fz (g 45) 0 (-1) (53 * (g 1 0).toNat))) (okb dC dI dA sz X Γ) (ty_A sz)) 0 0 (ty_A sz) := by
  refine Met.ofW (cc := cX8_year) (maxL := 2) (ret := (Option.some Jvm.ClassFile.FieldType.int)) (by decide) rfl ?_
  intro p e s m args below meth c s₁ B hml hv
  obtain ⟨rfl, hG, hE⟩ := hv
  have hx := B.exec
  have hb := B.bytes
  have hr := B.returns
  have hts := atoms_spec B.pre
  have hA : ∀ w ∈ AL, w.before _ s = true := fun w h => hts w (List.mem_cons_of_mem _ h)
  have hown : s.vm.findClass RX8 = some m.cls := findClass_of_methodNamed B.named
  have hlocks := B.notSynchronized
  have hS : va_S (ty_A sz) s.heap s.heap [] := va_S.rf
  have hl := lv_entry ([.ref h0]) (n := 2) (Nat.le_of_ble_eq_true rfl)
  rw [lg_entry_eq]
  generalize (lg_sl ([.ref h0]) ++ List.replicate (2 - (lg_sl ([.ref h0])).length) Slot.unset).toArray = ls at hl ⊢
  have hl : lv_has ls 2 [(0, .ref h0)] := hl
  refine lv_aload_n hx hb dX8_year_0 rfl (lv_at hl 0 rfl) ?_
  refine ty_bipush hx hb (52) dX8_year_1 (by decide) (fun x1 h2 => ?_)
  refine cV (va_runV (C := RX8) (As := [.int x1]) (rest := []) ⟨hx, hb, hml, hown, hA⟩ (k_X8_endUnusedGifts l dC dI dA sz X Γ hU g h0 t_h0 x1   (by omega)) ⟨callB_of 1 hA (al_A wd_3_224) rfl rfl rfl (hA _ wd_1_1) (hA _ wd_3_221) (by decide +kernel) ⟨Nat.le_of_ble_eq_true rfl, Nat.le_of_ble_eq_true rfl⟩, hA _ wd_3_223, hA _ ws_30⟩ ⟨bl, recv_X8 hE hG t_h0, fun U hU9 hW9 => ⟨rfl, by rw [hU9]; exact hG, hE.go hS hU9 hW9⟩⟩ rfl rfl hl.1 rfl (lv_room (Nat.le_of_ble_eq_true rfl)) dX8_year_3 ⟨Nat.zero_le _, Nat.zero_le _⟩) hS (fun u3 H locs w4 hG hS => ?_)
  obtain ⟨hf6, hq5⟩ := w4
  refine ty_iconst hx hb (0) dX8_year_6 (by decide) (fun x7 h8 => ?_)
  refine lv_istore_n (lv' := [(1, .int x7), (0, .ref h0)]) hx hb dX8_year_7 rfl hl (by decide) rfl (fun ls hl => ?_)
  have L_8 : ∀ (n : Nat) (v1_8 : Int32) (g9 : gh) (H : Heap) (locs : List Loc) (ls : Array Slot), (g9 1 0 - v1_8.toInt : Int) < n → 0 ≤ v1_8.toInt ∧ v1_8.toInt ≤ g9 1 0 → (∀ c j : Nat, c ≠ 44 → c ≠ 45 → g9 c j = u3 c j) → (g9 44 = fz (g 44) 0 0 (53 * v1_8.toInt.toNat)) → (g9 45 = fz (g 45) 0 (-1) (53 * v1_8.toInt.toNat)) → ty_ok (dC, dI) vwCl Γ (TP dA Γ g9) sz X H → va_S (ty_A sz) s.heap H locs → lv_has ls 2 [(1, .int v1_8), (0, .ref h0)] → W p l e (headSpec (.code yX8_year cX8_year 2 (Option.some Jvm.ClassFile.FieldType.int) :: AL) ({ frames := 1, cells := 0, slots := 0, locals := 24 })).room s m ([.ref h0] : List Value).toArray below meth c H locs 0 0 (MQ below (va_Qi (fun (r : Int32) (u : gh) => (∀ c j : Nat, c ≠ 4 → c ≠ 5 → c ≠ 44 → c ≠ 45 → c ≠ 65 → u c j = g c j) ∧ ((r.toInt = g 4 0 + 1) ∧ (u 4 0 = g 4 0 + 1) ∧ (u 5 0 = 0)) ∧ (u 65 = eu_f (g 65) (g 62) 52 (g 3 0).toNat) ∧ (u 44 = fz (g 44) 0 0 (53 * (g 1 0).toNat)) ∧ (u 45 = fz (g 45) 0 (-1) (53 * (g 1 0).toNat))) (okb dC dI dA sz X Γ) (ty_A sz)) ([.ref h0] : List Value).toArray s 0 0 (ty_A sz)) (F0 m 8 ls []) := by
    intro n
    induction n with
    | zero => intro v1_8 g9 H locs ls hm hi0 hf10 hq0 hq1 hG hS hl; exfalso; omega
    | succ n ih_8 =>
      intro v1_8 g9 H locs ls hm hi0 hf10 hq0 hq1 hG hS hl
      have hk11 : g9 1 0 = u3 1 0 := hf10 1 0 (by decide) (by decide)
      have hk12 : u3 1 0 = g 1 0 := hf6 1 0 (by decide)
      refine lv_iload_n hx hb dX8_year_8 rfl (lv_at hl 0 rfl) ?_
      refine lv_aload_n hx hb dX8_year_9 rfl (lv_at hl 1 rfl) ?_
      refine get_X8_1 hx hb hA hown hE hG t_h0 wd_1_158 dX8_year_10 (fun x13 h14 => ?_)
      refine ty_icmp_ge (tgt := 31) hx hb dX8_year_13 (by decide) (fun c16 => ?_) (fun c16 => ?_)
      · skip
        refine lv_aload_n hx hb dX8_year_31 rfl (lv_at hl 1 rfl) ?_
        refine ty_iconst hx hb (0) dX8_year_32 (by decide) (fun x17 h18 => ?_)
        refine put_X8_10 hx hb hA hown hE hG hS hU t_h0 wd_1_167 dX8_year_33 (fun H locs hG hS => ?_)
        refine lv_aload_n hx hb dX8_year_36 rfl (lv_at hl 1 rfl) ?_
        refine lv_dup hx hb dX8_year_37 rfl ?_
        refine get_X8_9 hx hb hA hown hE hG t_h0 wd_1_166 dX8_year_38 (fun x19 h20 => ?_)
        replace h20 : x19.toInt = g9 4 0 := by rw [h20, gs_c _ _ _ _ (by decide)]
        have hk22 : g9 4 0 = u3 4 0 := hf10 4 0 (by decide) (by decide)
        have hk23 : u3 4 0 = g 4 0 := hf6 4 0 (by decide)
        refine ty_iconst hx hb (1) dX8_year_41 (by decide) (fun x24 h25 => ?_)
        refine ty_iadd hx hb dX8_year_42 (fun x26 h27 => ?_)
        try have h28 : x26.toInt = x19.toInt + x24.toInt := ty_add h27 (by omega) (by omega)
        refine put_X8_9 hx hb hA hown hE hG hS hU t_h0 wd_1_166 dX8_year_43 (fun H locs hG hS => ?_)
        refine lv_aload_n hx hb dX8_year_46 rfl (lv_at hl 1 rfl) ?_
        refine get_X8_9 hx hb hA hown hE hG t_h0 wd_1_166 dX8_year_47 (fun x29 h30 => ?_)
        replace h30 : x29.toInt = x26.toInt := by rw [h30, gs_self]
        have e32 : (gs (gs g9 5 0 x17.toInt) 4 0 x26.toInt) 4 0 = x26.toInt := by rw [gs_self]
        have e33 : (gs (gs g9 5 0 x17.toInt) 4 0 x26.toInt) 5 0 = x17.toInt := by rw [gs_c _ _ _ _ (by decide), gs_self]
        exact W.iret (v := x29) hx hb hr (fun t ht hW => ⟨⟨x29, (gs (gs g9 5 0 x17.toInt) 4 0 x26.toInt), rfl, ⟨(fun c j h4 h5 h44 h45 h65 => by rw [gs_c _ _ _ _ h4, gs_c _ _ _ _ h5, hf10 c j h44 h45, hf6 c j h65]), (by omega), (by rw [gs_r _ _ _ (by decide), gs_r _ _ _ (by decide), (show g9 65 = u3 65 from funext fun j => hf10 65 j (by decide) (by decide)), hq5] <;> exact congrArg (fun z => eu_f (g 65) (g 62) z (g 3 0).toNat) (by omega)), (by rw [gs_r _ _ _ (by decide), gs_r _ _ _ (by decide), hq0, show v1_8.toInt.toNat = (g 1 0).toNat by omega]), (by rw [gs_r _ _ _ (by decide), gs_r _ _ _ (by decide), hq1, show v1_8.toInt.toNat = (g 1 0).toNat by omega])⟩, ok1 ht hG⟩, hS.F ht⟩) hS.2.2 dX8_year_50
      · skip
        refine lv_aload_n hx hb dX8_year_16 rfl (lv_at hl 1 rfl) ?_
        refine get_X8_0 hx hb hA hown hE hG t_h0 wd_1_157 dX8_year_17 (fun b34 (t_b34 : ty Γ b34 10) => ?_)
        refine lv_iload_n hx hb dX8_year_20 rfl (lv_at hl 0 rfl) ?_
        refine ald_10 hx hb hE hG t_b34 (by omega) dX8_year_21 (fun j36 r35 h37 t_r35 h38 => ?_)
        obtain rfl : j36 = v1_8.toInt.toNat := by omega
        have hk39 : g9 33 0 = u3 33 0 := hf10 33 0 (by decide) (by decide)
        have hk40 : u3 33 0 = g 33 0 := hf6 33 0 (by decide)
        obtain ⟨b41, h42⟩ := Option.ne_none_iff_exists'.mp (h38 (by omega))
        have t_b41 := t_r35 b41 h42
        clear h38 t_r35
        subst h42
        refine cV (va_runV (C := RX1) (As := []) (rest := []) ⟨hx, hb, hml, hown, hA⟩ (k_X1_beginYear l dC dI dA sz X Γ hU g9 b41 v1_8.toInt.toNat t_b41   ) ⟨callB_of 0 hA (al_A wd_3_232) rfl rfl rfl (hA _ wd_1_8) (hA _ wd_3_229) (by decide +kernel) ⟨Nat.le_of_ble_eq_true rfl, Nat.le_of_ble_eq_true rfl⟩, hA _ wd_3_230, hA _ wd_3_231⟩ ⟨bl, recv_X1 hE hG (by rw [t_b41]), fun U hU9 hW9 => ⟨rfl, by rw [hU9]; exact hG, hE.go hS hU9 hW9⟩⟩ rfl rfl hl.1 rfl (lv_room (Nat.le_of_ble_eq_true rfl)) dX8_year_22 ⟨Nat.zero_le _, Nat.zero_le _⟩) hS (fun u43 H locs w44 hG hS => ?_)
        obtain ⟨hf47, hq45, hq46⟩ := w44
        have hn48 : g9 44 = (fz (g 44) 0 0 (53 * v1_8.toInt.toNat)) := by rw [hq0]
        rw [hn48] at hq45
        have hn49 : g9 45 = (fz (g 45) 0 (-1) (53 * v1_8.toInt.toNat)) := by rw [hq1]
        rw [hn49] at hq46
        obtain ⟨x50, h51⟩ : ∃ y : Int32, y = v1_8 + Int32.ofInt (1) := ⟨_, rfl⟩
        try have h52 : x50.toInt = v1_8.toInt + (1) := ty_inc h51 (by decide) (by omega) (by omega)
        refine lv_iinc (v := x50) (lv' := [(1, .int x50), (0, .ref h0)]) hx hb dX8_year_25 hl (k := 0) rfl h51.symm (by decide) rfl (fun ls hl => ?_)
        refine lv_goto (tgt := 8) hx hb dX8_year_28 (by decide) ?_
        have hk53 : u43 1 0 = g9 1 0 := hf47 1 0 (by decide) (by decide)
        exact ih_8 x50 u43 _ _ ls (by omega) (by omega) (fun c j h44 h45 => by rw [hf47 c j h44 h45, hf10 c j h44 h45]) (by rw [hq45]; exact fz_blk (by omega) rfl) (by rw [hq46]; exact fz_blk (by omega) rfl) hG hS (lv_sub hl [0, 1] rfl)
  have hk54 : u3 1 0 = g 1 0 := hf6 1 0 (by decide)
  exact L_8 ((u3 1 0 - x7.toInt) + 1).toNat x7 u3 _ _ ls (by omega) (by omega) (fun c j _ _ => rfl) (by rw [(show u3 44 = g 44 from funext fun j => hf6 44 j (by decide))]; exact fz_0 (by omega)) (by rw [(show u3 45 = g 45 from funext fun j => hf6 45 j (by decide))]; exact fz_0 (by omega)) hG hS (lv_sub hl [0, 1] rfl)

set_option maxHeartbeats 4000000 in
set_option maxRecDepth 100000 in
/-- WeekBank.party:  -/
theorem k_X8_party (l : Launch) (dC : Nat → ClassId) (dI : Nat → Nat → Nat) (dA : Nat → ClassId) (sz : Nat) (X : va_W) (Γ : ty_G) (hU : Un Γ) (g : gh) (h0 : Nat) (t_h0 : ty Γ h0 1) (p1 : Int32) (p2 : Int32) (g1 : g 1 0 = g 33 0 ∧ 0 ≤ g 1 0 ∧ g 1 0 ≤ 6) : Met l yX8_party (.code yX8_party cX8_party 5 (Option.some Jvm.ClassFile.FieldType.int) :: AL) ({ frames := 2, cells := 0, slots := 0, locals := 40 }) (PCx dC dI dA sz X Γ g [.ref h0, .int p1, .int p2]) (va_Qi (fun (r : Int32) (u : gh) => u = g ∧ ((r.toInt = pt_c (g 1 0) (g 43) (g 45 (53 * p1.toInt.toNat + p2.toInt.toNat)) (g 65) (g 68) p1.toInt p2.toInt))) (okb dC dI dA sz X Γ) (ty_A sz)) 0 0 (ty_A sz) := by
  refine Met.ofW (cc := cX8_party) (maxL := 5) (ret := (Option.some Jvm.ClassFile.FieldType.int)) (by decide) rfl ?_
  intro p e s m args below meth c s₁ B hml hv
  obtain ⟨rfl, hG, hE⟩ := hv
  have hx := B.exec
  have hb := B.bytes
  have hr := B.returns
  have hts := atoms_spec B.pre
  have hA : ∀ w ∈ AL, w.before _ s = true := fun w h => hts w (List.mem_cons_of_mem _ h)
  have hown : s.vm.findClass RX8 = some m.cls := findClass_of_methodNamed B.named
  have hlocks := B.notSynchronized
  have hS : va_S (ty_A sz) s.heap s.heap [] := va_S.rf
  have hl := lv_entry ([.ref h0, .int p1, .int p2]) (n := 5) (Nat.le_of_ble_eq_true rfl)
  rw [lg_entry_eq]
  generalize (lg_sl ([.ref h0, .int p1, .int p2]) ++ List.replicate (5 - (lg_sl ([.ref h0, .int p1, .int p2])).length) Slot.unset).toArray = ls at hl ⊢
  have hl : lv_has ls 5 [(0, .ref h0), (1, .int p1), (2, .int p2)] := hl
  refine lv_aload_n hx hb dX8_party_0 rfl (lv_at hl 0 rfl) ?_
  refine lv_iload_n hx hb dX8_party_1 rfl (lv_at hl 1 rfl) ?_
  refine cQ (va_runV (C := RX8) (As := [.int p1]) (rest := []) ⟨hx, hb, hml, hown, hA⟩ (k_X8_flatAt l dC dI dA sz X Γ hU g h0 t_h0 p1   (by omega)) ⟨callB_of 1 hA (al_A wd_2_48) rfl rfl rfl (hA _ wd_1_1) (hA _ wd_2_45) (by decide +kernel) ⟨Nat.le_of_ble_eq_true rfl, Nat.le_of_ble_eq_true rfl⟩, hA _ wd_2_47, hA _ ws_0⟩ ⟨bl, recv_X8 hE hG t_h0, fun U hU9 hW9 => ⟨rfl, by rw [hU9]; exact hG, hE.go hS hU9 hW9⟩⟩ rfl rfl hl.1 rfl (lv_room (Nat.le_of_ble_eq_true rfl)) dX8_party_2 ⟨Nat.zero_le _, Nat.zero_le _⟩) hS (fun r3 u1 H locs w2 hG hS => ?_)
  obtain ⟨z_r3, n_r3, t_r3, w2⟩ := w2
  obtain ⟨eu4, w2⟩ := w2
  rw [eu4] at hG
  rcases pz_or w2 with w2 | w2
  · skip
    obtain ⟨b5, h6⟩ := Option.ne_none_iff_exists'.mp (fun h9 => absurd (n_r3 h9) (by omega))
    obtain ⟨t_b5, p_b5⟩ := t_r3 b5 h6
    clear t_r3 n_r3
    subst h6
    replace t_b5 : Γ b5 = (2, (p1.toInt).toNat) := by rw [t_b5, show z_r3 = p1.toInt by omega]
    replace p_b5 : 0 ≤ p1.toInt := by omega
    refine lv_astore_n (lv' := [(3, .ref b5), (0, .ref h0), (1, .int p1), (2, .int p2)]) hx hb dX8_party_5 rfl hl (by decide) rfl (fun ls hl => ?_)
    refine lv_aload_n hx hb dX8_party_6 rfl (lv_at hl 0 rfl) ?_
    refine lv_ifnull hx hb dX8_party_7 ?_
    refine lv_iload_n hx hb dX8_party_10 rfl (lv_at hl 3 rfl) ?_
    refine cI (va_runS (As := [.int p2]) (rest := []) ⟨hx, hb, hml, hown, hA⟩ (k_X8_isWeek l dC dI dA sz X Γ hU g p2   ) ⟨callB_of 1 hA (al_A wd_2_59) rfl rfl rfl (hA _ wd_1_1) (hA _ wd_2_57) (by decide +kernel) ⟨Nat.le_of_ble_eq_true rfl, Nat.le_of_ble_eq_true rfl⟩, hA _ wd_2_58⟩ ⟨bl, fun U hU9 hW9 => ⟨rfl, by rw [hU9]; exact hG, hE.go hS hU9 hW9⟩⟩ rfl rfl hl.1 rfl (lv_room (Nat.le_of_ble_eq_true rfl)) dX8_party_11 ⟨Nat.zero_le _, Nat.zero_le _⟩) hS (fun x9 u7 H locs w8 hG hS => ?_)
    obtain ⟨eu10, w8⟩ := w8
    rw [eu10] at hG
    rcases pz_or w8 with w8 | w8
    · skip
      refine ty_if_ne (tgt := 19) hx hb dX8_party_14 (by decide) (fun c11 => ?_) (fun c11 => ?_)
      · skip
        refine lv_aload_n hx hb dX8_party_19 rfl (lv_at hl 0 rfl) ?_
        refine get_X1_5 hx hb hA hown hE hG t_b5 wd_1_223 dX8_party_20 (fun b12 t_b12 => ?_)
        refine lv_iload_n hx hb dX8_party_23 rfl (lv_at hl 3 rfl) ?_
        refine ald_15 hx hb hE hG t_b12 (by omega) dX8_party_24 (fun j14 r13 h15 n_r13 t_r13 => ?_)
        obtain rfl : j14 = p2.toInt.toNat := by omega
        clear h15
        refine ty_astoreq (lv' := [(4, va_rf r13), (3, .ref b5), (0, .ref h0), (1, .int p1), (2, .int p2)]) hx hb dX8_party_25 hl (by decide) rfl (fun ls hl => ?_)
        refine ty_aloadq hx hb dX8_party_27 (lv_at hl 0 rfl) ?_
        refine ty_ifnull (tgt := 40) hx hb dX8_party_29 (by decide) (fun h18 => ?_) (fun b17 h18 => ?_)
        · skip
          have hz19 := n_r13 h18
          subst h18
          have hl : lv_has ls 5 [(4, .null), (3, .ref b5), (0, .ref h0), (1, .int p1), (2, .int p2)] := hl
          refine lv_aload_n hx hb dX8_party_40 rfl (lv_at hl 1 rfl) ?_
          refine get_X1_3 hx hb hA hown hE hG t_b5 wd_1_219 dX8_party_41 (fun b20 t_b20 => ?_)
          refine lv_iload_n hx hb dX8_party_44 rfl (lv_at hl 4 rfl) ?_
          refine ald_13 hx hb hE hG t_b20 (by omega) dX8_party_45 (fun j22 r21 h23 n_r21 t_r21 => ?_)
          obtain rfl : j22 = p2.toInt.toNat := by omega
          clear h23
          refine cI (va_runS (As := [va_rf r21]) (rest := []) ⟨hx, hb, hml, hown, hA⟩ (k_X8_numberOf l dC dI dA sz X Γ hU g (r21) ((g 43 (53 * (p1.toInt).toNat + p2.toInt.toNat))) (And.intro n_r21 t_r21).1 (And.intro n_r21 t_r21).2   ) ⟨callB_of 1 hA (al_A wd_4_36) rfl rfl rfl (hA _ wd_1_1) (hA _ wd_4_34) (by decide +kernel) ⟨Nat.le_of_ble_eq_true rfl, Nat.le_of_ble_eq_true rfl⟩, hA _ wd_4_35⟩ ⟨bl, fun U hU9 hW9 => ⟨rfl, by rw [hU9]; exact hG, hE.go hS hU9 hW9⟩⟩ rfl rfl hl.1 rfl (lv_room (Nat.le_of_ble_eq_true rfl)) dX8_party_46 ⟨Nat.zero_le _, Nat.zero_le _⟩) hS (fun x27 u25 H locs w26 hG hS => ?_)
          obtain ⟨eu28, w26⟩ := w26
          rw [eu28] at hG
          exact W.iret (v := x27) hx hb hr (fun t ht hW => ⟨⟨x27, g, rfl, ⟨rfl, (by unfold pt_c; rw [if_neg (by omega), if_neg (by omega)]; omega)⟩, ok1 ht hG⟩, hS.F ht⟩) hS.2.2 dX8_party_49
        · skip
          obtain ⟨t_b17, p_b17⟩ := t_r13 b17 h18
          clear t_r13 n_r13
          subst h18
          have hl : lv_has ls 5 [(4, .ref b17), (3, .ref b5), (0, .ref h0), (1, .int p1), (2, .int p2)] := hl
          refine lv_aload hx hb dX8_party_32 (lv_at hl 0 rfl) ?_
          refine cI (va_runV (C := RX2) (As := []) (rest := []) ⟨hx, hb, hml, hown, hA⟩ (k_X2_isOut l dC dI dA sz X Γ hU g b17 ((g 45 (53 * (p1.toInt).toNat + p2.toInt.toNat))).toNat t_b17   ) ⟨callB_of 0 hA (al_A wd_2_63) rfl rfl rfl (hA _ wd_1_15) (hA _ wd_2_60) (by decide +kernel) ⟨Nat.le_of_ble_eq_true rfl, Nat.le_of_ble_eq_true rfl⟩, hA _ wd_2_61, hA _ wd_2_62⟩ ⟨bl, recv_X2 hE hG (by rw [t_b17]), fun U hU9 hW9 => ⟨rfl, by rw [hU9]; exact hG, hE.go hS hU9 hW9⟩⟩ rfl rfl hl.1 rfl (lv_room (Nat.le_of_ble_eq_true rfl)) dX8_party_34 ⟨Nat.zero_le _, Nat.zero_le _⟩) hS (fun x31 u29 H locs w30 hG hS => ?_)
          obtain ⟨eu32, w30⟩ := w30
          rw [eu32] at hG
          rcases pz_or w30 with w30 | w30
          · skip
            refine ty_if_ne (tgt := 50) hx hb dX8_party_37 (by decide) (fun c33 => ?_) (fun c33 => ?_)
            · skip
              refine lv_aload hx hb dX8_party_50 (lv_at hl 0 rfl) ?_
              refine cI (va_runV (C := RX2) (As := []) (rest := []) ⟨hx, hb, hml, hown, hA⟩ (k_X2_isGot l dC dI dA sz X Γ hU g b17 ((g 45 (53 * (p1.toInt).toNat + p2.toInt.toNat))).toNat t_b17   ) ⟨callB_of 0 hA (al_A wd_2_67) rfl rfl rfl (hA _ wd_1_15) (hA _ wd_4_37) (by decide +kernel) ⟨Nat.le_of_ble_eq_true rfl, Nat.le_of_ble_eq_true rfl⟩, hA _ wd_2_65, hA _ wd_2_66⟩ ⟨bl, recv_X2 hE hG (by rw [t_b17]), fun U hU9 hW9 => ⟨rfl, by rw [hU9]; exact hG, hE.go hS hU9 hW9⟩⟩ rfl rfl hl.1 rfl (lv_room (Nat.le_of_ble_eq_true rfl)) dX8_party_52 ⟨Nat.zero_le _, Nat.zero_le _⟩) hS (fun x36 u34 H locs w35 hG hS => ?_)
              obtain ⟨eu37, w35⟩ := w35
              rw [eu37] at hG
              rcases pz_or w35 with w35 | w35
              · skip
                refine ty_if_eq (tgt := 69) hx hb dX8_party_55 (by decide) (fun c38 => ?_) (fun c38 => ?_)
                · exfalso; omega
                · skip
                  refine lv_aload hx hb dX8_party_58 (lv_at hl 0 rfl) ?_
                  refine get_X2_9 hx hb hA hown hE hG t_b17 wd_3_43 dX8_party_60 (fun r39 n_r39 t_r39 => ?_)
                  refine cI (va_runS (As := [va_rf r39]) (rest := []) ⟨hx, hb, hml, hown, hA⟩ (k_X8_numberOf l dC dI dA sz X Γ hU g (r39) ((g 68 ((g 45 (53 * (p1.toInt).toNat + p2.toInt.toNat))).toNat)) (And.intro n_r39 t_r39).1 (And.intro n_r39 t_r39).2   ) ⟨callB_of 1 hA (al_A wd_4_36) rfl rfl rfl (hA _ wd_1_1) (hA _ wd_4_34) (by decide +kernel) ⟨Nat.le_of_ble_eq_true rfl, Nat.le_of_ble_eq_true rfl⟩, hA _ wd_4_35⟩ ⟨bl, fun U hU9 hW9 => ⟨rfl, by rw [hU9]; exact hG, hE.go hS hU9 hW9⟩⟩ rfl rfl hl.1 rfl (lv_room (Nat.le_of_ble_eq_true rfl)) dX8_party_63 ⟨Nat.zero_le _, Nat.zero_le _⟩) hS (fun x42 u40 H locs w41 hG hS => ?_)
                  obtain ⟨eu43, w41⟩ := w41
                  rw [eu43] at hG
                  refine lv_goto (tgt := 71) hx hb dX8_party_66 (by decide) ?_
                  exact W.iret (v := x42) hx hb hr (fun t ht hW => ⟨⟨x42, g, rfl, ⟨rfl, (by unfold pt_c; rw [if_neg (by omega), if_pos (by omega), if_pos (by omega)]; omega)⟩, ok1 ht hG⟩, hS.F ht⟩) hS.2.2 dX8_party_71
              · skip
                refine ty_if_eq (tgt := 69) hx hb dX8_party_55 (by decide) (fun c44 => ?_) (fun c44 => ?_)
                · skip
                  refine ty_bipush hx hb (-2) dX8_party_69 (by decide) (fun x45 h46 => ?_)
                  exact W.iret (v := x45) hx hb hr (fun t ht hW => ⟨⟨x45, g, rfl, ⟨rfl, (by unfold pt_c; rw [if_neg (by omega), if_pos (by omega), if_neg (by omega)]; omega)⟩, ok1 ht hG⟩, hS.F ht⟩) hS.2.2 dX8_party_71
                · exfalso; omega
            · exfalso; omega
          · skip
            refine ty_if_ne (tgt := 50) hx hb dX8_party_37 (by decide) (fun c47 => ?_) (fun c47 => ?_)
            · exfalso; omega
            · skip
              refine lv_aload_n hx hb dX8_party_40 rfl (lv_at hl 1 rfl) ?_
              refine get_X1_3 hx hb hA hown hE hG t_b5 wd_1_219 dX8_party_41 (fun b48 t_b48 => ?_)
              refine lv_iload_n hx hb dX8_party_44 rfl (lv_at hl 4 rfl) ?_
              refine ald_13 hx hb hE hG t_b48 (by omega) dX8_party_45 (fun j50 r49 h51 n_r49 t_r49 => ?_)
              obtain rfl : j50 = p2.toInt.toNat := by omega
              clear h51
              refine cI (va_runS (As := [va_rf r49]) (rest := []) ⟨hx, hb, hml, hown, hA⟩ (k_X8_numberOf l dC dI dA sz X Γ hU g (r49) ((g 43 (53 * (p1.toInt).toNat + p2.toInt.toNat))) (And.intro n_r49 t_r49).1 (And.intro n_r49 t_r49).2   ) ⟨callB_of 1 hA (al_A wd_4_36) rfl rfl rfl (hA _ wd_1_1) (hA _ wd_4_34) (by decide +kernel) ⟨Nat.le_of_ble_eq_true rfl, Nat.le_of_ble_eq_true rfl⟩, hA _ wd_4_35⟩ ⟨bl, fun U hU9 hW9 => ⟨rfl, by rw [hU9]; exact hG, hE.go hS hU9 hW9⟩⟩ rfl rfl hl.1 rfl (lv_room (Nat.le_of_ble_eq_true rfl)) dX8_party_46 ⟨Nat.zero_le _, Nat.zero_le _⟩) hS (fun x55 u53 H locs w54 hG hS => ?_)
              obtain ⟨eu56, w54⟩ := w54
              rw [eu56] at hG
              exact W.iret (v := x55) hx hb hr (fun t ht hW => ⟨⟨x55, g, rfl, ⟨rfl, (by unfold pt_c; rw [if_neg (by omega), if_neg (by omega)]; omega)⟩, ok1 ht hG⟩, hS.F ht⟩) hS.2.2 dX8_party_49
      · exfalso; omega
    · skip
      refine ty_if_ne (tgt := 19) hx hb dX8_party_14 (by decide) (fun c57 => ?_) (fun c57 => ?_)
      · exfalso; omega
      · skip
        refine ty_iconst hx hb (-1) dX8_party_17 (by decide) (fun x58 h59 => ?_)
        exact W.iret (v := x58) hx hb hr (fun t ht hW => ⟨⟨x58, g, rfl, ⟨rfl, (by unfold pt_c; rw [if_pos (by omega)]; omega)⟩, ok1 ht hG⟩, hS.F ht⟩) hS.2.2 dX8_party_18
  · skip
    obtain rfl : r3 = none := rq_no t_r3 (by omega)
    clear n_r3 t_r3
    refine lv_astore_nN (lv' := [(3, .null), (0, .ref h0), (1, .int p1), (2, .int p2)]) hx hb dX8_party_5 rfl hl (by decide) rfl (fun ls hl => ?_)
    refine lv_aload_nN hx hb dX8_party_6 rfl (lv_at hl 0 rfl) ?_
    refine lv_ifnullN (tgt := 17) hx hb dX8_party_7 (by decide) ?_
    refine ty_iconst hx hb (-1) dX8_party_17 (by decide) (fun x60 h61 => ?_)
    exact W.iret (v := x60) hx hb hr (fun t ht hW => ⟨⟨x60, g, rfl, ⟨rfl, (by unfold pt_c; rw [if_pos (by omega)]; omega)⟩, ok1 ht hG⟩, hS.F ht⟩) hS.2.2 dX8_party_18

set_option maxHeartbeats 4000000 in
set_option maxRecDepth 100000 in
/-- WeekBank.ownerOf:  -/
theorem k_X8_ownerOf (l : Launch) (dC : Nat → ClassId) (dI : Nat → Nat → Nat) (dA : Nat → ClassId) (sz : Nat) (X : va_W) (Γ : ty_G) (hU : Un Γ) (g : gh) (h0 : Nat) (t_h0 : ty Γ h0 1) (p1 : Int32) (p2 : Int32) (g2 : g 2 0 = g 34 0 ∧ 0 ≤ g 2 0 ∧ g 2 0 ≤ 10) : Met l yX8_ownerOf (.code yX8_ownerOf cX8_ownerOf 4 (Option.some Jvm.ClassFile.FieldType.int) :: AL) ({ frames := 1, cells := 0, slots := 0, locals := 21 }) (PCx dC dI dA sz X Γ g [.ref h0, .int p1, .int p2]) (va_Qi (fun (r : Int32) (u : gh) => u = g ∧ ((r.toInt = oo_c (g 2 0) (g 51) (g 52) (g 50) (g 53 p1.toInt.toNat) (g 54) (if 0 ≤ g 56 p1.toInt.toNat then 1 else 0) p1.toInt p2.toInt))) (okb dC dI dA sz X Γ) (ty_A sz)) 0 0 (ty_A sz) := by
  refine Met.ofW (cc := cX8_ownerOf) (maxL := 4) (ret := (Option.some Jvm.ClassFile.FieldType.int)) (by decide) rfl ?_
  intro p e s m args below meth c s₁ B hml hv
  obtain ⟨rfl, hG, hE⟩ := hv
  have hx := B.exec
  have hb := B.bytes
  have hr := B.returns
  have hts := atoms_spec B.pre
  have hA : ∀ w ∈ AL, w.before _ s = true := fun w h => hts w (List.mem_cons_of_mem _ h)
  have hown : s.vm.findClass RX8 = some m.cls := findClass_of_methodNamed B.named
  have hlocks := B.notSynchronized
  have hS : va_S (ty_A sz) s.heap s.heap [] := va_S.rf
  have hl := lv_entry ([.ref h0, .int p1, .int p2]) (n := 4) (Nat.le_of_ble_eq_true rfl)
  rw [lg_entry_eq]
  generalize (lg_sl ([.ref h0, .int p1, .int p2]) ++ List.replicate (4 - (lg_sl ([.ref h0, .int p1, .int p2])).length) Slot.unset).toArray = ls at hl ⊢
  have hl : lv_has ls 4 [(0, .ref h0), (1, .int p1), (2, .int p2)] := hl
  refine lv_aload_n hx hb dX8_ownerOf_0 rfl (lv_at hl 0 rfl) ?_
  refine lv_iload_n hx hb dX8_ownerOf_1 rfl (lv_at hl 1 rfl) ?_
  refine cQ (va_runV (C := RX8) (As := [.int p1]) (rest := []) ⟨hx, hb, hml, hown, hA⟩ (k_X8_ownerAt l dC dI dA sz X Γ hU g h0 t_h0 p1   (by omega)) ⟨callB_of 1 hA (al_A wd_2_56) rfl rfl rfl (hA _ wd_1_1) (hA _ wd_2_53) (by decide +kernel) ⟨Nat.le_of_ble_eq_true rfl, Nat.le_of_ble_eq_true rfl⟩, hA _ wd_2_55, hA _ ws_2⟩ ⟨bl, recv_X8 hE hG t_h0, fun U hU9 hW9 => ⟨rfl, by rw [hU9]; exact hG, hE.go hS hU9 hW9⟩⟩ rfl rfl hl.1 rfl (lv_room (Nat.le_of_ble_eq_true rfl)) dX8_ownerOf_2 ⟨Nat.zero_le _, Nat.zero_le _⟩) hS (fun r3 u1 H locs w2 hG hS => ?_)
  obtain ⟨z_r3, n_r3, t_r3, w2⟩ := w2
  obtain ⟨eu4, w2⟩ := w2
  rw [eu4] at hG
  rcases pz_or w2 with w2 | w2
  · skip
    obtain ⟨b5, h6⟩ := Option.ne_none_iff_exists'.mp (fun h9 => absurd (n_r3 h9) (by omega))
    obtain ⟨t_b5, p_b5⟩ := t_r3 b5 h6
    clear t_r3 n_r3
    subst h6
    replace t_b5 : Γ b5 = (3, (p1.toInt).toNat) := by rw [t_b5, show z_r3 = p1.toInt by omega]
    replace p_b5 : 0 ≤ p1.toInt := by omega
    refine lv_astore_n (lv' := [(3, .ref b5), (0, .ref h0), (1, .int p1), (2, .int p2)]) hx hb dX8_ownerOf_5 rfl hl (by decide) rfl (fun ls hl => ?_)
    refine lv_aload_n hx hb dX8_ownerOf_6 rfl (lv_at hl 0 rfl) ?_
    refine lv_ifnonnull (tgt := 12) hx hb dX8_ownerOf_7 (by decide) ?_
    refine lv_iload_n hx hb dX8_ownerOf_12 rfl (lv_at hl 3 rfl) ?_
    by_cases c7 : p2.toInt < 0 ∨ 5 < p2.toInt
    · skip
      refine lv_tableOut (tgt := 98) hx hb dX8_ownerOf_13 c7 (by decide) ?_
      refine ty_iconst hx hb (-1) dX8_ownerOf_98 (by decide) (fun x8 h9 => ?_)
      exact W.iret (v := x8) hx hb hr (fun t ht hW => ⟨⟨x8, g, rfl, ⟨rfl, (by unfold oo_c; rw [if_neg (by omega), if_neg (by omega), if_neg (by omega), if_neg (by omega), if_neg (by omega), if_neg (by omega), if_neg (by omega)]; omega)⟩, ok1 ht hG⟩, hS.F ht⟩) hS.2.2 dX8_ownerOf_99
    · skip
      rcases (show p2.toInt = 0 ∨ p2.toInt = 1 ∨ p2.toInt = 2 ∨ p2.toInt = 3 ∨ p2.toInt = 4 ∨ p2.toInt = 5 by omega) with q10 | q11 | q12 | q13 | q14 | q15
      · skip
        refine lv_tableIn (tgt := 52) (off := 39) hx hb dX8_ownerOf_13 (by omega) (by omega) (by rw [q10]; rfl) (by decide) ?_
        refine lv_aload_n hx hb dX8_ownerOf_52 rfl (lv_at hl 0 rfl) ?_
        refine get_X3_2 hx hb hA hown hE hG t_b5 wd_2_12 dX8_ownerOf_53 (fun x16 h17 => ?_)
        exact W.iret (v := x16) hx hb hr (fun t ht hW => ⟨⟨x16, g, rfl, ⟨rfl, (by unfold oo_c; rw [if_neg (by omega), if_pos (by omega)]; omega)⟩, ok1 ht hG⟩, hS.F ht⟩) hS.2.2 dX8_ownerOf_56
      · skip
        refine lv_tableIn (tgt := 57) (off := 44) hx hb dX8_ownerOf_13 (by omega) (by omega) (by rw [q11]; rfl) (by decide) ?_
        refine lv_aload_n hx hb dX8_ownerOf_57 rfl (lv_at hl 0 rfl) ?_
        refine get_X3_3 hx hb hA hown hE hG t_b5 wd_2_14 dX8_ownerOf_58 (fun x19 h20 => ?_)
        exact W.iret (v := x19) hx hb hr (fun t ht hW => ⟨⟨x19, g, rfl, ⟨rfl, (by unfold oo_c; rw [if_neg (by omega), if_neg (by omega), if_pos (by omega)]; omega)⟩, ok1 ht hG⟩, hS.F ht⟩) hS.2.2 dX8_ownerOf_61
      · skip
        refine lv_tableIn (tgt := 62) (off := 49) hx hb dX8_ownerOf_13 (by omega) (by omega) (by rw [q12]; rfl) (by decide) ?_
        refine lv_aload_n hx hb dX8_ownerOf_62 rfl (lv_at hl 0 rfl) ?_
        refine get_X3_1 hx hb hA hown hE hG t_b5 wd_2_9 dX8_ownerOf_63 (fun x22 h23 => ?_)
        exact W.iret (v := x22) hx hb hr (fun t ht hW => ⟨⟨x22, g, rfl, ⟨rfl, (by unfold oo_c; rw [if_neg (by omega), if_neg (by omega), if_neg (by omega), if_pos (by omega)]; omega)⟩, ok1 ht hG⟩, hS.F ht⟩) hS.2.2 dX8_ownerOf_66
      · skip
        refine lv_tableIn (tgt := 67) (off := 54) hx hb dX8_ownerOf_13 (by omega) (by omega) (by rw [q13]; rfl) (by decide) ?_
        refine lv_aload_n hx hb dX8_ownerOf_67 rfl (lv_at hl 0 rfl) ?_
        refine get_X3_4 hx hb hA hown hE hG t_b5 wd_2_17 dX8_ownerOf_68 (fun x25 h26 => ?_)
        exact W.iret (v := x25) hx hb hr (fun t ht hW => ⟨⟨x25, g, rfl, ⟨rfl, (by unfold oo_c; rw [if_neg (by omega), if_neg (by omega), if_neg (by omega), if_neg (by omega), if_pos (by omega)]; omega)⟩, ok1 ht hG⟩, hS.F ht⟩) hS.2.2 dX8_ownerOf_71
      · skip
        refine lv_tableIn (tgt := 72) (off := 59) hx hb dX8_ownerOf_13 (by omega) (by omega) (by rw [q14]; rfl) (by decide) ?_
        refine lv_aload_n hx hb dX8_ownerOf_72 rfl (lv_at hl 0 rfl) ?_
        refine get_X3_5 hx hb hA hown hE hG t_b5 wd_2_19 dX8_ownerOf_73 (fun x28 h29 h30 => ?_)
        refine ty_if_eq (tgt := 83) hx hb dX8_ownerOf_76 (by decide) (fun c31 => ?_) (fun c31 => ?_)
        · skip
          refine ty_iconst hx hb (0) dX8_ownerOf_83 (by decide) (fun x32 h33 => ?_)
          exact W.iret (v := x32) hx hb hr (fun t ht hW => ⟨⟨x32, g, rfl, ⟨rfl, (by unfold oo_c; rw [if_neg (by omega), if_neg (by omega), if_neg (by omega), if_neg (by omega), if_neg (by omega), if_pos (by omega)]; omega)⟩, ok1 ht hG⟩, hS.F ht⟩) hS.2.2 dX8_ownerOf_84
        · skip
          refine ty_iconst hx hb (1) dX8_ownerOf_79 (by decide) (fun x34 h35 => ?_)
          refine lv_goto (tgt := 84) hx hb dX8_ownerOf_80 (by decide) ?_
          exact W.iret (v := x34) hx hb hr (fun t ht hW => ⟨⟨x34, g, rfl, ⟨rfl, (by unfold oo_c; rw [if_neg (by omega), if_neg (by omega), if_neg (by omega), if_neg (by omega), if_neg (by omega), if_pos (by omega)]; omega)⟩, ok1 ht hG⟩, hS.F ht⟩) hS.2.2 dX8_ownerOf_84
      · skip
        refine lv_tableIn (tgt := 85) (off := 72) hx hb dX8_ownerOf_13 (by omega) (by omega) (by rw [q15]; rfl) (by decide) ?_
        refine lv_aload_n hx hb dX8_ownerOf_85 rfl (lv_at hl 0 rfl) ?_
        refine get_X3_7 hx hb hA hown hE hG t_b5 wd_2_23 dX8_ownerOf_86 (fun r36 n_r36 t_r36 => ?_)
        refine ty_ifnull (tgt := 96) hx hb dX8_ownerOf_89 (by decide) (fun h38 => ?_) (fun b37 h38 => ?_)
        · skip
          have hz39 := n_r36 h38
          subst h38
          have hl : lv_has ls 4 [(3, .ref b5), (0, .ref h0), (1, .int p1), (2, .int p2)] := hl
          refine ty_iconst hx hb (0) dX8_ownerOf_96 (by decide) (fun x40 h41 => ?_)
          exact W.iret (v := x40) hx hb hr (fun t ht hW => ⟨⟨x40, g, rfl, ⟨rfl, (by unfold oo_c; rw [if_neg (by omega), if_neg (by omega), if_neg (by omega), if_neg (by omega), if_neg (by omega), if_neg (by omega), if_pos (by omega)]; rw [if_neg (by omega)]; omega)⟩, ok1 ht hG⟩, hS.F ht⟩) hS.2.2 dX8_ownerOf_97
        · skip
          obtain ⟨t_b37, p_b37⟩ := t_r36 b37 h38
          clear t_r36 n_r36
          subst h38
          have hl : lv_has ls 4 [(3, .ref b5), (0, .ref h0), (1, .int p1), (2, .int p2)] := hl
          refine ty_iconst hx hb (1) dX8_ownerOf_92 (by decide) (fun x42 h43 => ?_)
          refine lv_goto (tgt := 97) hx hb dX8_ownerOf_93 (by decide) ?_
          exact W.iret (v := x42) hx hb hr (fun t ht hW => ⟨⟨x42, g, rfl, ⟨rfl, (by unfold oo_c; rw [if_neg (by omega), if_neg (by omega), if_neg (by omega), if_neg (by omega), if_neg (by omega), if_neg (by omega), if_pos (by omega)]; rw [if_pos (by omega)]; omega)⟩, ok1 ht hG⟩, hS.F ht⟩) hS.2.2 dX8_ownerOf_97
  · skip
    obtain rfl : r3 = none := rq_no t_r3 (by omega)
    clear n_r3 t_r3
    refine lv_astore_nN (lv' := [(3, .null), (0, .ref h0), (1, .int p1), (2, .int p2)]) hx hb dX8_ownerOf_5 rfl hl (by decide) rfl (fun ls hl => ?_)
    refine lv_aload_nN hx hb dX8_ownerOf_6 rfl (lv_at hl 0 rfl) ?_
    refine lv_ifnonnullN hx hb dX8_ownerOf_7 ?_
    refine ty_iconst hx hb (-1) dX8_ownerOf_10 (by decide) (fun x44 h45 => ?_)
    exact W.iret (v := x44) hx hb hr (fun t ht hW => ⟨⟨x44, g, rfl, ⟨rfl, (by unfold oo_c; rw [if_pos (by omega)]; omega)⟩, ok1 ht hG⟩, hS.F ht⟩) hS.2.2 dX8_ownerOf_11

set_option maxHeartbeats 4000000 in
set_option maxRecDepth 100000 in
/-- WeekBank.count:  -/
theorem k_X8_count (l : Launch) (dC : Nat → ClassId) (dI : Nat → Nat → Nat) (dA : Nat → ClassId) (sz : Nat) (X : va_W) (Γ : ty_G) (hU : Un Γ) (g : gh) (h0 : Nat) (t_h0 : ty Γ h0 1) (p1 : Int32) (g2 : g 2 0 = g 34 0 ∧ 0 ≤ g 2 0 ∧ g 2 0 ≤ 10) (g3 : g 3 0 = g 35 0 ∧ 0 ≤ g 3 0 ∧ g 3 0 ≤ 200) : Met l yX8_count (.code yX8_count cX8_count 2 (Option.some Jvm.ClassFile.FieldType.int) :: AL) ({ frames := 1, cells := 0, slots := 0, locals := 23 }) (PCx dC dI dA sz X Γ g [.ref h0, .int p1]) (va_Qi (fun (r : Int32) (u : gh) => u = g ∧ ((r.toInt = ct_c (g 1 0) (g 2 0) (g 4 0) (g 5 0) (g 3 0) (g 6 0) (g 11 (g 13 0).toNat) (g 65) (g 51) p1.toInt))) (okb dC dI dA sz X Γ) (ty_A sz)) 0 0 (ty_A sz) := by
  refine Met.ofW (cc := cX8_count) (maxL := 2) (ret := (Option.some Jvm.ClassFile.FieldType.int)) (by decide) rfl ?_
  intro p e s m args below meth c s₁ B hml hv
  obtain ⟨rfl, hG, hE⟩ := hv
  have hx := B.exec
  have hb := B.bytes
  have hr := B.returns
  have hts := atoms_spec B.pre
  have hA : ∀ w ∈ AL, w.before _ s = true := fun w h => hts w (List.mem_cons_of_mem _ h)
  have hown : s.vm.findClass RX8 = some m.cls := findClass_of_methodNamed B.named
  have hlocks := B.notSynchronized
  have hS : va_S (ty_A sz) s.heap s.heap [] := va_S.rf
  have hl := lv_entry ([.ref h0, .int p1]) (n := 2) (Nat.le_of_ble_eq_true rfl)
  rw [lg_entry_eq]
  generalize (lg_sl ([.ref h0, .int p1]) ++ List.replicate (2 - (lg_sl ([.ref h0, .int p1])).length) Slot.unset).toArray = ls at hl ⊢
  have hl : lv_has ls 2 [(0, .ref h0), (1, .int p1)] := hl
  refine lv_iload_n hx hb dX8_count_0 rfl (lv_at hl 1 rfl) ?_
  by_cases c1 : p1.toInt < 0 ∨ 9 < p1.toInt
  · skip
    refine lv_tableOut (tgt := 122) hx hb dX8_count_1 c1 (by decide) ?_
    refine ty_iconst hx hb (-1) dX8_count_122 (by decide) (fun x2 h3 => ?_)
    exact W.iret (v := x2) hx hb hr (fun t ht hW => ⟨⟨x2, g, rfl, ⟨rfl, (by unfold ct_c; rw [if_neg (by omega), if_neg (by omega), if_neg (by omega), if_neg (by omega), if_neg (by omega), if_neg (by omega), if_neg (by omega), if_neg (by omega), if_neg (by omega), if_neg (by omega)]; omega)⟩, ok1 ht hG⟩, hS.F ht⟩) hS.2.2 dX8_count_123
  · skip
    rcases (show p1.toInt = 0 ∨ p1.toInt = 1 ∨ p1.toInt = 2 ∨ p1.toInt = 3 ∨ p1.toInt = 4 ∨ p1.toInt = 5 ∨ p1.toInt = 6 ∨ p1.toInt = 7 ∨ p1.toInt = 8 ∨ p1.toInt = 9 by omega) with q4 | q5 | q6 | q7 | q8 | q9 | q10 | q11 | q12 | q13
    · skip
      refine lv_tableIn (tgt := 56) (off := 55) hx hb dX8_count_1 (by omega) (by omega) (by rw [q4]; rfl) (by decide) ?_
      refine lv_aload_n hx hb dX8_count_56 rfl (lv_at hl 0 rfl) ?_
      refine get_X8_1 hx hb hA hown hE hG t_h0 wd_1_158 dX8_count_57 (fun x14 h15 => ?_)
      exact W.iret (v := x14) hx hb hr (fun t ht hW => ⟨⟨x14, g, rfl, ⟨rfl, (by unfold ct_c; rw [if_pos (by omega)]; omega)⟩, ok1 ht hG⟩, hS.F ht⟩) hS.2.2 dX8_count_60
    · skip
      refine lv_tableIn (tgt := 61) (off := 60) hx hb dX8_count_1 (by omega) (by omega) (by rw [q5]; rfl) (by decide) ?_
      refine lv_aload_n hx hb dX8_count_61 rfl (lv_at hl 0 rfl) ?_
      refine get_X8_3 hx hb hA hown hE hG t_h0 wd_1_160 dX8_count_62 (fun x17 h18 => ?_)
      exact W.iret (v := x17) hx hb hr (fun t ht hW => ⟨⟨x17, g, rfl, ⟨rfl, (by unfold ct_c; rw [if_neg (by omega), if_pos (by omega)]; omega)⟩, ok1 ht hG⟩, hS.F ht⟩) hS.2.2 dX8_count_65
    · skip
      refine lv_tableIn (tgt := 66) (off := 65) hx hb dX8_count_1 (by omega) (by omega) (by rw [q6]; rfl) (by decide) ?_
      refine lv_aload_n hx hb dX8_count_66 rfl (lv_at hl 0 rfl) ?_
      refine get_X8_9 hx hb hA hown hE hG t_h0 wd_1_166 dX8_count_67 (fun x20 h21 => ?_)
      exact W.iret (v := x20) hx hb hr (fun t ht hW => ⟨⟨x20, g, rfl, ⟨rfl, (by unfold ct_c; rw [if_neg (by omega), if_neg (by omega), if_pos (by omega)]; omega)⟩, ok1 ht hG⟩, hS.F ht⟩) hS.2.2 dX8_count_70
    · skip
      refine lv_tableIn (tgt := 71) (off := 70) hx hb dX8_count_1 (by omega) (by omega) (by rw [q7]; rfl) (by decide) ?_
      refine lv_aload_n hx hb dX8_count_71 rfl (lv_at hl 0 rfl) ?_
      refine get_X8_10 hx hb hA hown hE hG t_h0 wd_1_167 dX8_count_72 (fun x23 h24 => ?_)
      exact W.iret (v := x23) hx hb hr (fun t ht hW => ⟨⟨x23, g, rfl, ⟨rfl, (by unfold ct_c; rw [if_neg (by omega), if_neg (by omega), if_neg (by omega), if_pos (by omega)]; omega)⟩, ok1 ht hG⟩, hS.F ht⟩) hS.2.2 dX8_count_75
    · skip
      refine lv_tableIn (tgt := 76) (off := 75) hx hb dX8_count_1 (by omega) (by omega) (by rw [q8]; rfl) (by decide) ?_
      refine lv_aload_n hx hb dX8_count_76 rfl (lv_at hl 0 rfl) ?_
      refine get_X8_5 hx hb hA hown hE hG t_h0 wd_1_162 dX8_count_77 (fun x26 h27 => ?_)
      exact W.iret (v := x26) hx hb hr (fun t ht hW => ⟨⟨x26, g, rfl, ⟨rfl, (by unfold ct_c; rw [if_neg (by omega), if_neg (by omega), if_neg (by omega), if_neg (by omega), if_pos (by omega)]; omega)⟩, ok1 ht hG⟩, hS.F ht⟩) hS.2.2 dX8_count_80
    · skip
      refine lv_tableIn (tgt := 81) (off := 80) hx hb dX8_count_1 (by omega) (by omega) (by rw [q9]; rfl) (by decide) ?_
      refine lv_aload_n hx hb dX8_count_81 rfl (lv_at hl 0 rfl) ?_
      refine ty_iconst hx hb (0) dX8_count_82 (by decide) (fun x29 h30 => ?_)
      refine cI (va_runV (C := RX8) (As := [.int x29]) (rest := []) ⟨hx, hb, hml, hown, hA⟩ (k_X8_countGifts l dC dI dA sz X Γ hU g h0 t_h0 x29   (by omega)) ⟨callB_of 1 hA (al_A wd_3_8) rfl rfl rfl (hA _ wd_1_1) (hA _ wd_3_5) (by decide +kernel) ⟨Nat.le_of_ble_eq_true rfl, Nat.le_of_ble_eq_true rfl⟩, hA _ wd_3_7, hA _ ws_15⟩ ⟨bl, recv_X8 hE hG t_h0, fun U hU9 hW9 => ⟨rfl, by rw [hU9]; exact hG, hE.go hS hU9 hW9⟩⟩ rfl rfl hl.1 rfl (lv_room (Nat.le_of_ble_eq_true rfl)) dX8_count_83 ⟨Nat.zero_le _, Nat.zero_le _⟩) hS (fun x33 u31 H locs w32 hG hS => ?_)
      obtain ⟨eu34, w32⟩ := w32
      rw [eu34] at hG
      rw [show x29.toInt = 0 by omega] at w32
      exact W.iret (v := x33) hx hb hr (fun t ht hW => ⟨⟨x33, g, rfl, ⟨rfl, (by unfold ct_c; rw [if_neg (by omega), if_neg (by omega), if_neg (by omega), if_neg (by omega), if_neg (by omega), if_pos (by omega)]; omega)⟩, ok1 ht hG⟩, hS.F ht⟩) hS.2.2 dX8_count_86
    · skip
      refine lv_tableIn (tgt := 87) (off := 86) hx hb dX8_count_1 (by omega) (by omega) (by rw [q10]; rfl) (by decide) ?_
      refine lv_aload_n hx hb dX8_count_87 rfl (lv_at hl 0 rfl) ?_
      refine ty_iconst hx hb (2) dX8_count_88 (by decide) (fun x35 h36 => ?_)
      refine cI (va_runV (C := RX8) (As := [.int x35]) (rest := []) ⟨hx, hb, hml, hown, hA⟩ (k_X8_countGifts l dC dI dA sz X Γ hU g h0 t_h0 x35   (by omega)) ⟨callB_of 1 hA (al_A wd_3_8) rfl rfl rfl (hA _ wd_1_1) (hA _ wd_3_5) (by decide +kernel) ⟨Nat.le_of_ble_eq_true rfl, Nat.le_of_ble_eq_true rfl⟩, hA _ wd_3_7, hA _ ws_15⟩ ⟨bl, recv_X8 hE hG t_h0, fun U hU9 hW9 => ⟨rfl, by rw [hU9]; exact hG, hE.go hS hU9 hW9⟩⟩ rfl rfl hl.1 rfl (lv_room (Nat.le_of_ble_eq_true rfl)) dX8_count_89 ⟨Nat.zero_le _, Nat.zero_le _⟩) hS (fun x39 u37 H locs w38 hG hS => ?_)
      obtain ⟨eu40, w38⟩ := w38
      rw [eu40] at hG
      rw [show x35.toInt = 2 by omega] at w38
      exact W.iret (v := x39) hx hb hr (fun t ht hW => ⟨⟨x39, g, rfl, ⟨rfl, (by unfold ct_c; rw [if_neg (by omega), if_neg (by omega), if_neg (by omega), if_neg (by omega), if_neg (by omega), if_neg (by omega), if_pos (by omega)]; omega)⟩, ok1 ht hG⟩, hS.F ht⟩) hS.2.2 dX8_count_92
    · skip
      refine lv_tableIn (tgt := 93) (off := 92) hx hb dX8_count_1 (by omega) (by omega) (by rw [q11]; rfl) (by decide) ?_
      refine lv_aload_n hx hb dX8_count_93 rfl (lv_at hl 0 rfl) ?_
      refine get_X8_6 hx hb hA hown hE hG t_h0 wd_1_163 dX8_count_94 (fun b41 (t_b41 : ty Γ b41 7) => ?_)
      refine get_X4_1 hx hb hA hown hE hG t_b41 wd_1_44 dX8_count_97 (fun x42 h43 => ?_)
      exact W.iret (v := x42) hx hb hr (fun t ht hW => ⟨⟨x42, g, rfl, ⟨rfl, (by unfold ct_c; rw [if_neg (by omega), if_neg (by omega), if_neg (by omega), if_neg (by omega), if_neg (by omega), if_neg (by omega), if_neg (by omega), if_pos (by omega)]; omega)⟩, ok1 ht hG⟩, hS.F ht⟩) hS.2.2 dX8_count_100
    · skip
      refine lv_tableIn (tgt := 101) (off := 100) hx hb dX8_count_1 (by omega) (by omega) (by rw [q12]; rfl) (by decide) ?_
      refine lv_aload_n hx hb dX8_count_101 rfl (lv_at hl 0 rfl) ?_
      refine get_X8_7 hx hb hA hown hE hG t_h0 wd_1_164 dX8_count_102 (fun b45 i46 t_b45 h47 h47' => ?_)
      refine get_X6_3 hx hb hA hown hE hG t_b45 wd_1_85 dX8_count_105 (fun x48 h49 h50 => ?_)
      refine ty_if_eq (tgt := 115) hx hb dX8_count_108 (by decide) (fun c51 => ?_) (fun c51 => ?_)
      · skip
        refine ty_iconst hx hb (0) dX8_count_115 (by decide) (fun x52 h53 => ?_)
        exact W.iret (v := x52) hx hb hr (fun t ht hW => ⟨⟨x52, g, rfl, ⟨rfl, (by unfold ct_c; rw [if_neg (by omega), if_neg (by omega), if_neg (by omega), if_neg (by omega), if_neg (by omega), if_neg (by omega), if_neg (by omega), if_neg (by omega), if_pos (by omega), ← show i46 = (g 13 0).toNat by omega]; omega)⟩, ok1 ht hG⟩, hS.F ht⟩) hS.2.2 dX8_count_116
      · skip
        refine ty_iconst hx hb (1) dX8_count_111 (by decide) (fun x54 h55 => ?_)
        refine lv_goto (tgt := 116) hx hb dX8_count_112 (by decide) ?_
        exact W.iret (v := x54) hx hb hr (fun t ht hW => ⟨⟨x54, g, rfl, ⟨rfl, (by unfold ct_c; rw [if_neg (by omega), if_neg (by omega), if_neg (by omega), if_neg (by omega), if_neg (by omega), if_neg (by omega), if_neg (by omega), if_neg (by omega), if_pos (by omega), ← show i46 = (g 13 0).toNat by omega]; omega)⟩, ok1 ht hG⟩, hS.F ht⟩) hS.2.2 dX8_count_116
    · skip
      refine lv_tableIn (tgt := 117) (off := 116) hx hb dX8_count_1 (by omega) (by omega) (by rw [q13]; rfl) (by decide) ?_
      refine lv_aload_n hx hb dX8_count_117 rfl (lv_at hl 0 rfl) ?_
      refine cI (va_runV (C := RX8) (As := []) (rest := []) ⟨hx, hb, hml, hown, hA⟩ (k_X8_sumPoints l dC dI dA sz X Γ hU g h0 t_h0   (by omega)) ⟨callB_of 0 hA (al_A wd_4_49) rfl rfl rfl (hA _ wd_1_1) (hA _ wd_4_46) (by decide +kernel) ⟨Nat.le_of_ble_eq_true rfl, Nat.le_of_ble_eq_true rfl⟩, hA _ wd_4_48, hA _ ws_34⟩ ⟨bl, recv_X8 hE hG t_h0, fun U hU9 hW9 => ⟨rfl, by rw [hU9]; exact hG, hE.go hS hU9 hW9⟩⟩ rfl rfl hl.1 rfl (lv_room (Nat.le_of_ble_eq_true rfl)) dX8_count_118 ⟨Nat.zero_le _, Nat.zero_le _⟩) hS (fun x58 u56 H locs w57 hG hS => ?_)
      obtain ⟨eu60, hq59⟩ := w57
      rw [eu60] at hG
      exact W.iret (v := x58) hx hb hr (fun t ht hW => ⟨⟨x58, g, rfl, ⟨rfl, (by unfold ct_c; rw [if_neg (by omega), if_neg (by omega), if_neg (by omega), if_neg (by omega), if_neg (by omega), if_neg (by omega), if_neg (by omega), if_neg (by omega), if_neg (by omega), if_pos (by omega)]; exact hq59)⟩, ok1 ht hG⟩, hS.F ht⟩) hS.2.2 dX8_count_121

set_option maxHeartbeats 4000000 in
set_option maxRecDepth 100000 in
/-- WeekBank.place:  -/
theorem k_X8_place (l : Launch) (dC : Nat → ClassId) (dI : Nat → Nat → Nat) (dA : Nat → ClassId) (sz : Nat) (X : va_W) (Γ : ty_G) (hU : Un Γ) (g : gh) (h0 : Nat) (t_h0 : ty Γ h0 1) : Met l yX8_place (.code yX8_place cX8_place 1 (Option.some Jvm.ClassFile.FieldType.int) :: AL) ({ frames := 0, cells := 0, slots := 0, locals := 0 }) (PCx dC dI dA sz X Γ g [.ref h0]) (va_Qi (fun (r : Int32) (u : gh) => u = g ∧ ((r.toInt = g 14 0))) (okb dC dI dA sz X Γ) (ty_A sz)) 0 0 (ty_A sz) := by
  refine Met.ofW (cc := cX8_place) (maxL := 1) (ret := (Option.some Jvm.ClassFile.FieldType.int)) (by decide) rfl ?_
  intro p e s m args below meth c s₁ B hml hv
  obtain ⟨rfl, hG, hE⟩ := hv
  have hx := B.exec
  have hb := B.bytes
  have hr := B.returns
  have hts := atoms_spec B.pre
  have hA : ∀ w ∈ AL, w.before _ s = true := fun w h => hts w (List.mem_cons_of_mem _ h)
  have hown : s.vm.findClass RX8 = some m.cls := findClass_of_methodNamed B.named
  have hlocks := B.notSynchronized
  have hS : va_S (ty_A sz) s.heap s.heap [] := va_S.rf
  have hl := lv_entry ([.ref h0]) (n := 1) (Nat.le_of_ble_eq_true rfl)
  rw [lg_entry_eq]
  generalize (lg_sl ([.ref h0]) ++ List.replicate (1 - (lg_sl ([.ref h0])).length) Slot.unset).toArray = ls at hl ⊢
  have hl : lv_has ls 1 [(0, .ref h0)] := hl
  refine lv_aload_n hx hb dX8_place_0 rfl (lv_at hl 0 rfl) ?_
  refine get_X8_6 hx hb hA hown hE hG t_h0 wd_1_163 dX8_place_1 (fun b1 (t_b1 : ty Γ b1 7) => ?_)
  refine get_X4_3 hx hb hA hown hE hG t_b1 wd_1_48 dX8_place_4 (fun x2 h3 => ?_)
  exact W.iret (v := x2) hx hb hr (fun t ht hW => ⟨⟨x2, g, rfl, ⟨rfl, (by omega)⟩, ok1 ht hG⟩, hS.F ht⟩) hS.2.2 dX8_place_7

set_option maxHeartbeats 4000000 in
set_option maxRecDepth 100000 in
/-- WeekBank.end:  -/
theorem k_X8_end (l : Launch) (dC : Nat → ClassId) (dI : Nat → Nat → Nat) (dA : Nat → ClassId) (sz : Nat) (X : va_W) (Γ : ty_G) (hU : Un Γ) (g : gh) (h0 : Nat) (t_h0 : ty Γ h0 1) (p1 : Int32) (g1 : 0 ≤ g 6 0 ∧ g 6 0 ≤ 300) : Met l yX8_end (.code yX8_end cX8_end 2 (Option.some Jvm.ClassFile.FieldType.int) :: AL) ({ frames := 0, cells := 0, slots := 0, locals := 0 }) (PCx dC dI dA sz X Γ g [.ref h0, .int p1]) (va_Qi (fun (r : Int32) (u : gh) => (∀ c j : Nat, c ≠ 6 → u c j = g c j) ∧ ((0 ≤ p1.toInt ∧ p1.toInt ≤ g 6 0 → r.toInt = p1.toInt ∧ u 6 0 = p1.toInt) ∧ (¬ (0 ≤ p1.toInt ∧ p1.toInt ≤ g 6 0) → r.toInt = -1 ∧ u 6 0 = g 6 0))) (okb dC dI dA sz X Γ) (ty_A sz)) 0 0 (ty_A sz) := by
  refine Met.ofW (cc := cX8_end) (maxL := 2) (ret := (Option.some Jvm.ClassFile.FieldType.int)) (by decide) rfl ?_
  intro p e s m args below meth c s₁ B hml hv
  obtain ⟨rfl, hG, hE⟩ := hv
  have hx := B.exec
  have hb := B.bytes
  have hr := B.returns
  have hts := atoms_spec B.pre
  have hA : ∀ w ∈ AL, w.before _ s = true := fun w h => hts w (List.mem_cons_of_mem _ h)
  have hown : s.vm.findClass RX8 = some m.cls := findClass_of_methodNamed B.named
  have hlocks := B.notSynchronized
  have hS : va_S (ty_A sz) s.heap s.heap [] := va_S.rf
  have hl := lv_entry ([.ref h0, .int p1]) (n := 2) (Nat.le_of_ble_eq_true rfl)
  rw [lg_entry_eq]
  generalize (lg_sl ([.ref h0, .int p1]) ++ List.replicate (2 - (lg_sl ([.ref h0, .int p1])).length) Slot.unset).toArray = ls at hl ⊢
  have hl : lv_has ls 2 [(0, .ref h0), (1, .int p1)] := hl
  refine lv_iload_n hx hb dX8_end_0 rfl (lv_at hl 1 rfl) ?_
  refine ty_if_lt (tgt := 15) hx hb dX8_end_1 (by decide) (fun c1 => ?_) (fun c1 => ?_)
  · skip
    refine ty_iconst hx hb (-1) dX8_end_15 (by decide) (fun x2 h3 => ?_)
    exact W.iret (v := x2) hx hb hr (fun t ht hW => ⟨⟨x2, g, rfl, ⟨(fun c j h6 => by rfl), (by omega)⟩, ok1 ht hG⟩, hS.F ht⟩) hS.2.2 dX8_end_16
  · skip
    refine lv_iload_n hx hb dX8_end_4 rfl (lv_at hl 1 rfl) ?_
    refine lv_aload_n hx hb dX8_end_5 rfl (lv_at hl 0 rfl) ?_
    refine get_X8_6 hx hb hA hown hE hG t_h0 wd_1_163 dX8_end_6 (fun b4 (t_b4 : ty Γ b4 7) => ?_)
    refine get_X4_1 hx hb hA hown hE hG t_b4 wd_1_44 dX8_end_9 (fun x5 h6 => ?_)
    refine ty_icmp_le (tgt := 17) hx hb dX8_end_12 (by decide) (fun c8 => ?_) (fun c8 => ?_)
    · skip
      refine lv_aload_n hx hb dX8_end_17 rfl (lv_at hl 0 rfl) ?_
      refine get_X8_6 hx hb hA hown hE hG t_h0 wd_1_163 dX8_end_18 (fun b9 (t_b9 : ty Γ b9 7) => ?_)
      refine lv_iload_n hx hb dX8_end_21 rfl (lv_at hl 1 rfl) ?_
      refine put_X4_1 hx hb hA hown hE hG hS hU t_b9 wd_1_44 dX8_end_22 (fun H locs hG hS => ?_)
      refine lv_iload_n hx hb dX8_end_25 rfl (lv_at hl 1 rfl) ?_
      have e10 : (gs g 6 0 p1.toInt) 6 0 = p1.toInt := by rw [gs_self]
      exact W.iret (v := p1) hx hb hr (fun t ht hW => ⟨⟨p1, (gs g 6 0 p1.toInt), rfl, ⟨(fun c j h6 => by rw [gs_c _ _ _ _ h6]), (by omega)⟩, ok1 ht hG⟩, hS.F ht⟩) hS.2.2 dX8_end_26
    · skip
      refine ty_iconst hx hb (-1) dX8_end_15 (by decide) (fun x11 h12 => ?_)
      exact W.iret (v := x11) hx hb hr (fun t ht hW => ⟨⟨x11, g, rfl, ⟨(fun c j h6 => by rfl), (by omega)⟩, ok1 ht hG⟩, hS.F ht⟩) hS.2.2 dX8_end_16

set_option maxHeartbeats 4000000 in
set_option maxRecDepth 100000 in
/-- WeekBank$Reader.addBytes:  -/
theorem k_X4_addBytes (l : Launch) (dC : Nat → ClassId) (dI : Nat → Nat → Nat) (dA : Nat → ClassId) (sz : Nat) (X : va_W) (Γ : ty_G) (hU : Un Γ) (g : gh) (h0 : Nat) (t_h0 : ty Γ h0 7) (p1 : Int32) (g1 : 0 ≤ g 6 0 ∧ g 6 0 ≤ 296) : Met l yX4_addBytes (.code yX4_addBytes cX4_addBytes 3 (Option.none : Option Jvm.ClassFile.FieldType) :: AL) ({ frames := 0, cells := 0, slots := 0, locals := 0 }) (PCx dC dI dA sz X Γ g [.ref h0, .int p1]) (va_Qv (fun (u : gh) => (∀ c j : Nat, c ≠ 6 → c ≠ 19 → u c j = g c j) ∧ ((u 6 0 = g 6 0 + 4)) ∧ (u 19 = pz_a4 (g 19) (g 6 0).toNat p1 4)) (okb dC dI dA sz X Γ) (ty_A sz)) 0 0 (ty_A sz) := by
  refine Met.ofW (cc := cX4_addBytes) (maxL := 3) (ret := (Option.none : Option Jvm.ClassFile.FieldType)) (by decide) rfl ?_
  intro p e s m args below meth c s₁ B hml hv
  obtain ⟨rfl, hG, hE⟩ := hv
  have hx := B.exec
  have hb := B.bytes
  have hr := B.returns
  have hts := atoms_spec B.pre
  have hA : ∀ w ∈ AL, w.before _ s = true := fun w h => hts w (List.mem_cons_of_mem _ h)
  have hown : s.vm.findClass RX4 = some m.cls := findClass_of_methodNamed B.named
  have hlocks := B.notSynchronized
  have hS : va_S (ty_A sz) s.heap s.heap [] := va_S.rf
  have hl := lv_entry ([.ref h0, .int p1]) (n := 3) (Nat.le_of_ble_eq_true rfl)
  rw [lg_entry_eq]
  generalize (lg_sl ([.ref h0, .int p1]) ++ List.replicate (3 - (lg_sl ([.ref h0, .int p1])).length) Slot.unset).toArray = ls at hl ⊢
  have hl : lv_has ls 3 [(0, .ref h0), (1, .int p1)] := hl
  refine ty_bipush hx hb (24) dX4_addBytes_0 (by decide) (fun x1 h2 => ?_)
  refine lv_istore_n (lv' := [(2, .int x1), (0, .ref h0), (1, .int p1)]) hx hb dX4_addBytes_2 rfl hl (by decide) rfl (fun ls hl => ?_)
  have L_3 : ∀ (n : Nat) (k : Int32) (g3 : gh) (H : Heap) (locs : List Loc) (ls : Array Slot), (k.toInt + 8 : Int) < n → -8 ≤ k.toInt ∧ k.toInt ≤ 24 → 8 * (g3 6 0 - g 6 0) = 24 - k.toInt → (∀ c j : Nat, c ≠ 6 → c ≠ 19 → g3 c j = g c j) → (g3 19 = pz_a4 (g 19) (g 6 0).toNat p1 ((24 - k.toInt) / 8).toNat) → ty_ok (dC, dI) vwCl Γ (TP dA Γ g3) sz X H → va_S (ty_A sz) s.heap H locs → lv_has ls 3 [(2, .int k), (0, .ref h0), (1, .int p1)] → W p l e (headSpec (.code yX4_addBytes cX4_addBytes 3 (Option.none : Option Jvm.ClassFile.FieldType) :: AL) ({ frames := 0, cells := 0, slots := 0, locals := 0 })).room s m ([.ref h0, .int p1] : List Value).toArray below meth c H locs 0 0 (MQ below (va_Qv (fun (u : gh) => (∀ c j : Nat, c ≠ 6 → c ≠ 19 → u c j = g c j) ∧ ((u 6 0 = g 6 0 + 4)) ∧ (u 19 = pz_a4 (g 19) (g 6 0).toNat p1 4)) (okb dC dI dA sz X Γ) (ty_A sz)) ([.ref h0, .int p1] : List Value).toArray s 0 0 (ty_A sz)) (F0 m 3 ls []) := by
    intro n
    induction n with
    | zero => intro k g3 H locs ls hm hi0 hi1 hf4 hq0 hG hS hl; exfalso; omega
    | succ n ih_3 =>
      intro k g3 H locs ls hm hi0 hi1 hf4 hq0 hG hS hl
      refine lv_iload_n hx hb dX4_addBytes_3 rfl (lv_at hl 0 rfl) ?_
      refine ty_if_lt (tgt := 49) hx hb dX4_addBytes_4 (by decide) (fun c5 => ?_) (fun c5 => ?_)
      · skip
        exact W.vret hx hb hr (fun t ht hW => ⟨⟨g3, rfl, ⟨(fun c j h6 h19 => by rw [hf4 c j h6 h19]), (by omega), (by have h9 := hq0; rw [show ((24 - k.toInt) / 8).toNat = 4 by omega] at h9; exact h9)⟩, ok1 ht hG⟩, hS.F ht⟩) hS.2.2 dX4_addBytes_49
      · skip
        refine lv_aload_n hx hb dX4_addBytes_7 rfl (lv_at hl 1 rfl) ?_
        refine get_X4_1 hx hb hA hown hE hG t_h0 wd_1_43 dX4_addBytes_8 (fun x6 h7 => ?_)
        refine ty_sipush hx hb (300) dX4_addBytes_11 (by decide) (fun x9 h10 => ?_)
        refine ty_icmp_ge (tgt := 43) hx hb dX4_addBytes_14 (by decide) (fun c11 => ?_) (fun c11 => ?_)
        · exfalso; omega
        · skip
          refine lv_aload_n hx hb dX4_addBytes_17 rfl (lv_at hl 1 rfl) ?_
          refine get_X4_0 hx hb hA hown hE hG t_h0 wd_1_42 dX4_addBytes_18 (fun b12 (t_b12 : ty Γ b12 18) => ?_)
          refine lv_aload_n hx hb dX4_addBytes_21 rfl (lv_at hl 1 rfl) ?_
          refine get_X4_1 hx hb hA hown hE hG t_h0 wd_1_43 dX4_addBytes_22 (fun x13 h14 => ?_)
          refine lv_iload_n hx hb dX4_addBytes_25 rfl (lv_at hl 2 rfl) ?_
          refine lv_iload_n hx hb dX4_addBytes_26 rfl (lv_at hl 0 rfl) ?_
          refine lv_iushr hx hb dX4_addBytes_27 rfl ?_
          refine lv_topi (fun x16 h17 => ?_)
          refine ty_sipush hx hb (255) dX4_addBytes_28 (by decide) (fun x18 h19 => ?_)
          refine ty_iand hx hb dX4_addBytes_31 (fun x20 h21 => ?_)
          refine ast_18 hx hb hE hG hS hU t_b12 (by omega) dX4_addBytes_32 (fun H locs hG hS => ?_)
          refine lv_aload_n hx hb dX4_addBytes_33 rfl (lv_at hl 1 rfl) ?_
          refine lv_dup hx hb dX4_addBytes_34 rfl ?_
          refine get_X4_1 hx hb hA hown hE hG t_h0 wd_1_43 dX4_addBytes_35 (fun x22 h23 => ?_)
          replace h23 : x22.toInt = g3 6 0 := by rw [h23, gs_c _ _ _ _ (by decide)]
          refine ty_iconst hx hb (1) dX4_addBytes_38 (by decide) (fun x25 h26 => ?_)
          refine ty_iadd hx hb dX4_addBytes_39 (fun x27 h28 => ?_)
          try have h29 : x27.toInt = x22.toInt + x25.toInt := ty_add h28 (by omega) (by omega)
          refine put_X4_1 hx hb hA hown hE hG hS hU t_h0 wd_1_43 dX4_addBytes_40 (fun H locs hG hS => ?_)
          obtain ⟨x30, h31⟩ : ∃ y : Int32, y = k + Int32.ofInt (-8) := ⟨_, rfl⟩
          try have h32 : x30.toInt = k.toInt + (-8) := ty_inc h31 (by decide) (by omega) (by omega)
          refine lv_iinc (v := x30) (lv' := [(2, .int x30), (0, .ref h0), (1, .int p1)]) hx hb dX4_addBytes_43 hl (k := 0) rfl h31.symm (by decide) rfl (fun ls hl => ?_)
          refine lv_goto (tgt := 3) hx hb dX4_addBytes_46 (by decide) ?_
          have e33 : (gs (gs g3 19 (x13.toInt.toNat) x20.toInt) 6 0 x27.toInt) 6 0 = x27.toInt := by rw [gs_self]
          exact ih_3 x30 (gs (gs g3 19 (x13.toInt.toNat) x20.toInt) 6 0 x27.toInt) _ _ ls (by omega) (by omega) (by omega) (fun c j h6 h19 => by rw [gs_c _ _ _ _ h6, gs_c _ _ _ _ h19, hf4 c j h6 h19]) (by have e9 : (gs (gs g3 19 (x13.toInt.toNat) x20.toInt) 6 0 x27.toInt) 19 = pz_up (g3 19) (x13.toInt.toNat) x20.toInt := (funext fun j => by rw [gs_c _ _ _ _ (by decide)]).trans pz_gs; rw [e9, hq0, show ((24 - x30.toInt) / 8).toNat = ((24 - k.toInt) / 8).toNat + 1 by omega]; show _ = pz_up (pz_a4 (g 19) (g 6 0).toNat p1 ((24 - k.toInt) / 8).toNat) ((g 6 0).toNat + ((24 - k.toInt) / 8).toNat) (pz_by p1 ((24 - k.toInt) / 8).toNat); rw [show (x13.toInt.toNat) = (g 6 0).toNat + ((24 - k.toInt) / 8).toNat by omega, pz_by_c (m := ((24 - k.toInt) / 8).toNat) (by omega) (by omega) h17 (by omega) h21]) hG hS (lv_sub hl [0, 1, 2] rfl)
  exact L_3 ((x1.toInt + 8) + 1).toNat x1 g _ _ ls (by omega) (by omega) (by omega) (fun c j _ _ => rfl) (by rw [show ((24 - x1.toInt) / 8).toNat = 0 by omega]; rfl) hG hS (lv_sub hl [0, 1, 2] rfl)

set_option maxHeartbeats 4000000 in
set_option maxRecDepth 100000 in
/-- WeekBank.feed:  -/
theorem k_X8_feed (l : Launch) (dC : Nat → ClassId) (dI : Nat → Nat → Nat) (dA : Nat → ClassId) (sz : Nat) (X : va_W) (Γ : ty_G) (hU : Un Γ) (g : gh) (h0 : Nat) (t_h0 : ty Γ h0 1) (p1 : Int32) (p2 : Int32) (p3 : Int32) (p4 : Int32) (p5 : Int32) (g1 : 0 ≤ g 6 0 ∧ g 6 0 ≤ 300) : Met l yX8_feed (.code yX8_feed cX8_feed 6 (Option.some Jvm.ClassFile.FieldType.int) :: AL) ({ frames := 1, cells := 0, slots := 0, locals := 22 }) (PCx dC dI dA sz X Γ g [.ref h0, .int p1, .int p2, .int p3, .int p4, .int p5]) (va_Qi (fun (r : Int32) (u : gh) => (∀ c j : Nat, c ≠ 6 → c ≠ 19 → u c j = g c j) ∧ ((g 6 0 ≤ 280 → r.toInt = g 6 0 + 20 ∧ u 6 0 = g 6 0 + 20) ∧ (280 < g 6 0 → r.toInt = -1 ∧ u 6 0 = g 6 0)) ∧ ((g 6 0 ≤ 280 → u 19 = pz_fk (g 19) (g 6 0).toNat p1 p2 p3 p4 p5 20) ∧ (280 < g 6 0 → u 19 = g 19))) (okb dC dI dA sz X Γ) (ty_A sz)) 0 0 (ty_A sz) := by
  refine Met.ofW (cc := cX8_feed) (maxL := 6) (ret := (Option.some Jvm.ClassFile.FieldType.int)) (by decide) rfl ?_
  intro p e s m args below meth c s₁ B hml hv
  obtain ⟨rfl, hG, hE⟩ := hv
  have hx := B.exec
  have hb := B.bytes
  have hr := B.returns
  have hts := atoms_spec B.pre
  have hA : ∀ w ∈ AL, w.before _ s = true := fun w h => hts w (List.mem_cons_of_mem _ h)
  have hown : s.vm.findClass RX8 = some m.cls := findClass_of_methodNamed B.named
  have hlocks := B.notSynchronized
  have hS : va_S (ty_A sz) s.heap s.heap [] := va_S.rf
  have hl := lv_entry ([.ref h0, .int p1, .int p2, .int p3, .int p4, .int p5]) (n := 6) (Nat.le_of_ble_eq_true rfl)
  rw [lg_entry_eq]
  generalize (lg_sl ([.ref h0, .int p1, .int p2, .int p3, .int p4, .int p5]) ++ List.replicate (6 - (lg_sl ([.ref h0, .int p1, .int p2, .int p3, .int p4, .int p5])).length) Slot.unset).toArray = ls at hl ⊢
  have hl : lv_has ls 6 [(0, .ref h0), (1, .int p1), (2, .int p2), (3, .int p3), (4, .int p4), (5, .int p5)] := hl
  refine lv_aload_n hx hb dX8_feed_0 rfl (lv_at hl 0 rfl) ?_
  refine get_X8_6 hx hb hA hown hE hG t_h0 wd_1_163 dX8_feed_1 (fun b1 (t_b1 : ty Γ b1 7) => ?_)
  refine get_X4_1 hx hb hA hown hE hG t_b1 wd_1_44 dX8_feed_4 (fun x2 h3 => ?_)
  refine ty_bipush hx hb (20) dX8_feed_7 (by decide) (fun x5 h6 => ?_)
  refine ty_iadd hx hb dX8_feed_9 (fun x7 h8 => ?_)
  try have h9 : x7.toInt = x2.toInt + x5.toInt := ty_add h8 (by omega) (by omega)
  refine ty_sipush hx hb (300) dX8_feed_10 (by decide) (fun x10 h11 => ?_)
  refine ty_icmp_le (tgt := 18) hx hb dX8_feed_13 (by decide) (fun c12 => ?_) (fun c12 => ?_)
  · skip
    refine lv_aload_n hx hb dX8_feed_18 rfl (lv_at hl 0 rfl) ?_
    refine get_X8_6 hx hb hA hown hE hG t_h0 wd_1_163 dX8_feed_19 (fun b13 (t_b13 : ty Γ b13 7) => ?_)
    refine lv_iload_n hx hb dX8_feed_22 rfl (lv_at hl 1 rfl) ?_
    refine cV (va_runV (C := RX4) (As := [.int p1]) (rest := []) ⟨hx, hb, hml, hown, hA⟩ (k_X4_addBytes l dC dI dA sz X Γ hU g b13 t_b13 p1   (by omega)) ⟨callB_of 1 hA (al_A wd_2_80) rfl rfl rfl (hA _ wd_1_2) (hA _ wd_2_77) (by decide +kernel) ⟨Nat.le_of_ble_eq_true rfl, Nat.le_of_ble_eq_true rfl⟩, hA _ wd_2_78, hA _ wd_2_79⟩ ⟨bl, recv_X4 hE hG t_b13, fun U hU9 hW9 => ⟨rfl, by rw [hU9]; exact hG, hE.go hS hU9 hW9⟩⟩ rfl rfl hl.1 rfl (lv_room (Nat.le_of_ble_eq_true rfl)) dX8_feed_23 ⟨Nat.zero_le _, Nat.zero_le _⟩) hS (fun u14 H locs w15 hG hS => ?_)
    obtain ⟨hf17, w15, hq16⟩ := w15
    refine lv_aload_n hx hb dX8_feed_26 rfl (lv_at hl 0 rfl) ?_
    refine get_X8_6 hx hb hA hown hE hG t_h0 wd_1_163 dX8_feed_27 (fun b18 (t_b18 : ty Γ b18 7) => ?_)
    refine lv_iload_n hx hb dX8_feed_30 rfl (lv_at hl 2 rfl) ?_
    refine cV (va_runV (C := RX4) (As := [.int p2]) (rest := []) ⟨hx, hb, hml, hown, hA⟩ (k_X4_addBytes l dC dI dA sz X Γ hU u14 b18 t_b18 p2   (by omega)) ⟨callB_of 1 hA (al_A wd_2_80) rfl rfl rfl (hA _ wd_1_2) (hA _ wd_2_77) (by decide +kernel) ⟨Nat.le_of_ble_eq_true rfl, Nat.le_of_ble_eq_true rfl⟩, hA _ wd_2_78, hA _ wd_2_79⟩ ⟨bl, recv_X4 hE hG t_b18, fun U hU9 hW9 => ⟨rfl, by rw [hU9]; exact hG, hE.go hS hU9 hW9⟩⟩ rfl rfl hl.1 rfl (lv_room (Nat.le_of_ble_eq_true rfl)) dX8_feed_31 ⟨Nat.zero_le _, Nat.zero_le _⟩) hS (fun u19 H locs w20 hG hS => ?_)
    obtain ⟨hf22, w20, hq21⟩ := w20
    have hn23 : u14 19 = (pz_a4 (g 19) (g 6 0).toNat p1 4) := by rw [hq16]
    rw [hn23] at hq21
    refine lv_aload_n hx hb dX8_feed_34 rfl (lv_at hl 0 rfl) ?_
    refine get_X8_6 hx hb hA hown hE hG t_h0 wd_1_163 dX8_feed_35 (fun b24 (t_b24 : ty Γ b24 7) => ?_)
    refine lv_iload_n hx hb dX8_feed_38 rfl (lv_at hl 3 rfl) ?_
    refine cV (va_runV (C := RX4) (As := [.int p3]) (rest := []) ⟨hx, hb, hml, hown, hA⟩ (k_X4_addBytes l dC dI dA sz X Γ hU u19 b24 t_b24 p3   (by omega)) ⟨callB_of 1 hA (al_A wd_2_80) rfl rfl rfl (hA _ wd_1_2) (hA _ wd_2_77) (by decide +kernel) ⟨Nat.le_of_ble_eq_true rfl, Nat.le_of_ble_eq_true rfl⟩, hA _ wd_2_78, hA _ wd_2_79⟩ ⟨bl, recv_X4 hE hG t_b24, fun U hU9 hW9 => ⟨rfl, by rw [hU9]; exact hG, hE.go hS hU9 hW9⟩⟩ rfl rfl hl.1 rfl (lv_room (Nat.le_of_ble_eq_true rfl)) dX8_feed_39 ⟨Nat.zero_le _, Nat.zero_le _⟩) hS (fun u25 H locs w26 hG hS => ?_)
    obtain ⟨hf28, w26, hq27⟩ := w26
    have hn29 : u19 19 = (pz_a4 (pz_a4 (g 19) (g 6 0).toNat p1 4) (u14 6 0).toNat p2 4) := by rw [hq21]
    rw [hn29] at hq27
    refine lv_aload_n hx hb dX8_feed_42 rfl (lv_at hl 0 rfl) ?_
    refine get_X8_6 hx hb hA hown hE hG t_h0 wd_1_163 dX8_feed_43 (fun b30 (t_b30 : ty Γ b30 7) => ?_)
    refine lv_iload hx hb dX8_feed_46 (lv_at hl 4 rfl) ?_
    refine cV (va_runV (C := RX4) (As := [.int p4]) (rest := []) ⟨hx, hb, hml, hown, hA⟩ (k_X4_addBytes l dC dI dA sz X Γ hU u25 b30 t_b30 p4   (by omega)) ⟨callB_of 1 hA (al_A wd_2_80) rfl rfl rfl (hA _ wd_1_2) (hA _ wd_2_77) (by decide +kernel) ⟨Nat.le_of_ble_eq_true rfl, Nat.le_of_ble_eq_true rfl⟩, hA _ wd_2_78, hA _ wd_2_79⟩ ⟨bl, recv_X4 hE hG t_b30, fun U hU9 hW9 => ⟨rfl, by rw [hU9]; exact hG, hE.go hS hU9 hW9⟩⟩ rfl rfl hl.1 rfl (lv_room (Nat.le_of_ble_eq_true rfl)) dX8_feed_48 ⟨Nat.zero_le _, Nat.zero_le _⟩) hS (fun u31 H locs w32 hG hS => ?_)
    obtain ⟨hf34, w32, hq33⟩ := w32
    have hn35 : u25 19 = (pz_a4 (pz_a4 (pz_a4 (g 19) (g 6 0).toNat p1 4) (u14 6 0).toNat p2 4) (u19 6 0).toNat p3 4) := by rw [hq27]
    rw [hn35] at hq33
    refine lv_aload_n hx hb dX8_feed_51 rfl (lv_at hl 0 rfl) ?_
    refine get_X8_6 hx hb hA hown hE hG t_h0 wd_1_163 dX8_feed_52 (fun b36 (t_b36 : ty Γ b36 7) => ?_)
    refine lv_iload hx hb dX8_feed_55 (lv_at hl 5 rfl) ?_
    refine cV (va_runV (C := RX4) (As := [.int p5]) (rest := []) ⟨hx, hb, hml, hown, hA⟩ (k_X4_addBytes l dC dI dA sz X Γ hU u31 b36 t_b36 p5   (by omega)) ⟨callB_of 1 hA (al_A wd_2_80) rfl rfl rfl (hA _ wd_1_2) (hA _ wd_2_77) (by decide +kernel) ⟨Nat.le_of_ble_eq_true rfl, Nat.le_of_ble_eq_true rfl⟩, hA _ wd_2_78, hA _ wd_2_79⟩ ⟨bl, recv_X4 hE hG t_b36, fun U hU9 hW9 => ⟨rfl, by rw [hU9]; exact hG, hE.go hS hU9 hW9⟩⟩ rfl rfl hl.1 rfl (lv_room (Nat.le_of_ble_eq_true rfl)) dX8_feed_57 ⟨Nat.zero_le _, Nat.zero_le _⟩) hS (fun u37 H locs w38 hG hS => ?_)
    obtain ⟨hf40, w38, hq39⟩ := w38
    have hn41 : u31 19 = (pz_a4 (pz_a4 (pz_a4 (pz_a4 (g 19) (g 6 0).toNat p1 4) (u14 6 0).toNat p2 4) (u19 6 0).toNat p3 4) (u25 6 0).toNat p4 4) := by rw [hq33]
    rw [hn41] at hq39
    refine lv_aload_n hx hb dX8_feed_60 rfl (lv_at hl 0 rfl) ?_
    refine get_X8_6 hx hb hA hown hE hG t_h0 wd_1_163 dX8_feed_61 (fun b42 (t_b42 : ty Γ b42 7) => ?_)
    refine get_X4_1 hx hb hA hown hE hG t_b42 wd_1_44 dX8_feed_64 (fun x43 h44 => ?_)
    exact W.iret (v := x43) hx hb hr (fun t ht hW => ⟨⟨x43, u37, rfl, ⟨(fun c j h6 h19 => by rw [hf40 c j h6 h19, hf34 c j h6 h19, hf28 c j h6 h19, hf22 c j h6 h19, hf17 c j h6 h19]), (by omega), (⟨fun q => by rw [hq39]; rw [show (u31 6 0).toNat = (g 6 0).toNat + 16 by omega, show (u25 6 0).toNat = (g 6 0).toNat + 12 by omega, show (u19 6 0).toNat = (g 6 0).toNat + 8 by omega, show (u14 6 0).toNat = (g 6 0).toNat + 4 by omega]; exact pz_fk20 _ _ _ _ _ _ _, fun q => absurd q (by omega)⟩)⟩, ok1 ht hG⟩, hS.F ht⟩) hS.2.2 dX8_feed_67
  · skip
    refine ty_iconst hx hb (-1) dX8_feed_16 (by decide) (fun x46 h47 => ?_)
    exact W.iret (v := x46) hx hb hr (fun t ht hW => ⟨⟨x46, g, rfl, ⟨(fun c j h6 h19 => by rfl), (by omega), (⟨fun q => absurd q (by omega), fun _ => rfl⟩)⟩, ok1 ht hG⟩, hS.F ht⟩) hS.2.2 dX8_feed_17
