set_option maxHeartbeats 4000000 in
set_option maxRecDepth 100000 in
/-- WeekBank.livingOwnerAt:  -/
theorem k_X8_livingOwnerAt (l : Launch) (dC : Nat → ClassId) (dI : Nat → Nat → Nat) (dA : Nat → ClassId) (sz : Nat) (X : va_W) (Γ : ty_G) (hU : Un Γ) (g : gh) (h0 : Nat) (t_h0 : ty Γ h0 1) (p1 : Int32) (g2 : g 2 0 = g 34 0 ∧ 0 ≤ g 2 0 ∧ g 2 0 ≤ 10) : Met l yX8_livingOwnerAt (.code yX8_livingOwnerAt cX8_livingOwnerAt 3 (Option.some (Jvm.ClassFile.FieldType.object "WeekBank$Owner")) :: AL) ({ frames := 1, cells := 0, slots := 0, locals := 21 }) (PCx dC dI dA sz X Γ g [.ref h0, .int p1]) (va_Qq (fun (r : Option Nat) (u : gh) => ∃ z9 : Int, (r = none → z9 = -1) ∧ (∀ b, r = some b → Γ b = (3, z9.toNat) ∧ 0 ≤ z9) ∧ u = g ∧ (((0 ≤ p1.toInt ∧ p1.toInt < g 2 0 ∧ g 54 p1.toInt.toNat = 0 → z9 = p1.toInt) ∧ (¬ (0 ≤ p1.toInt ∧ p1.toInt < g 2 0 ∧ g 54 p1.toInt.toNat = 0) → z9 = -1)))) (okb dC dI dA sz X Γ) (ty_A sz)) 0 0 (ty_A sz) := by
  refine Met.ofW (cc := cX8_livingOwnerAt) (maxL := 3) (ret := (Option.some (Jvm.ClassFile.FieldType.object "WeekBank$Owner"))) (by decide) rfl ?_
  intro p e s m args below meth c s₁ B hml hv
  obtain ⟨rfl, hG, hE⟩ := hv
  have hx := B.exec
  have hb := B.bytes
  have hr := B.returns
  have hts := atoms_spec B.pre
  have hA : ∀ w ∈ AL, w.before _ s = true := fun w h => hts w (List.mem_cons_of_mem _ h)
  have hown : s.vm.findClass RX8 = some m.cls := findClass_of_methodNamed B.named
  have hlocks := B.notSynchronized
  have hS : va_S (ty_A sz) s.heap s.heap [] := va_S.rf
  have hl := lv_entry ([.ref h0, .int p1]) (n := 3) (Nat.le_of_ble_eq_true rfl)
  rw [lg_entry_eq]
  generalize (lg_sl ([.ref h0, .int p1]) ++ List.replicate (3 - (lg_sl ([.ref h0, .int p1])).length) Slot.unset).toArray = ls at hl ⊢
  have hl : lv_has ls 3 [(0, .ref h0), (1, .int p1)] := hl
  refine lv_aload_n hx hb dX8_livingOwnerAt_0 rfl (lv_at hl 0 rfl) ?_
  refine lv_iload_n hx hb dX8_livingOwnerAt_1 rfl (lv_at hl 1 rfl) ?_
  refine cQ (va_runV (C := RX8) (As := [.int p1]) (rest := []) ⟨hx, hb, hml, hown, hA⟩ (k_X8_ownerAt l dC dI dA sz X Γ hU g h0 t_h0 p1   (by omega)) ⟨callB_of 1 hA (al_A wd_2_56) rfl rfl rfl (hA _ wd_1_1) (hA _ wd_2_53) (by decide +kernel) ⟨Nat.le_of_ble_eq_true rfl, Nat.le_of_ble_eq_true rfl⟩, hA _ wd_2_55, hA _ ws_2⟩ ⟨bl, recv_X8 hE hG t_h0, fun U hU9 hW9 => ⟨rfl, by rw [hU9]; exact hG, hE.go hS hU9 hW9⟩⟩ rfl rfl hl.1 rfl (lv_room (Nat.le_of_ble_eq_true rfl)) dX8_livingOwnerAt_2 ⟨Nat.zero_le _, Nat.zero_le _⟩) hS (fun r3 u1 H locs w2 hG hS => ?_)
  obtain ⟨z_r3, n_r3, t_r3, w2⟩ := w2
  obtain ⟨eu4, w2⟩ := w2
  rw [eu4] at hG
  rcases pz_or w2 with w2 | w2
  · skip
    obtain ⟨b5, h6⟩ := Option.ne_none_iff_exists'.mp (fun h9 => absurd (n_r3 h9) (by omega))
    obtain ⟨t_b5, p_b5⟩ := t_r3 b5 h6
    clear t_r3 n_r3
    subst h6
    replace t_b5 : Γ b5 = (3, (p1.toInt).toNat) := by rw [t_b5, show z_r3 = p1.toInt by omega]
    replace p_b5 : 0 ≤ p1.toInt := by omega
    refine lv_astore_n (lv' := [(2, .ref b5), (0, .ref h0), (1, .int p1)]) hx hb dX8_livingOwnerAt_5 rfl hl (by decide) rfl (fun ls hl => ?_)
    refine lv_aload_n hx hb dX8_livingOwnerAt_6 rfl (lv_at hl 0 rfl) ?_
    refine lv_ifnull hx hb dX8_livingOwnerAt_7 ?_
    refine lv_aload_n hx hb dX8_livingOwnerAt_10 rfl (lv_at hl 0 rfl) ?_
    refine get_X3_5 hx hb hA hown hE hG t_b5 wd_2_19 dX8_livingOwnerAt_11 (fun x7 h8 h9 => ?_)
    refine ty_if_eq (tgt := 21) hx hb dX8_livingOwnerAt_14 (by decide) (fun c10 => ?_) (fun c10 => ?_)
    · skip
      refine lv_aload_n hx hb dX8_livingOwnerAt_21 rfl (lv_at hl 0 rfl) ?_
      exact W.aret (v := va_rf (some b5)) hx hb hr (Or.inl ⟨_, rfl⟩) (va_rf_or _) (fun t ht hW => ⟨⟨some b5, g, rfl, ⟨(p1.toInt), (rq_z t_b5 p_b5).1, (rq_z t_b5 p_b5).2, ⟨rfl, (by omega)⟩⟩, ok1 ht hG⟩, hS.F ht⟩) hS.2.2 dX8_livingOwnerAt_22
    · skip
      refine lv_null hx hb dX8_livingOwnerAt_17 ?_
      refine lv_goto (tgt := 22) hx hb dX8_livingOwnerAt_18 (by decide) ?_
      exact W.aret (v := va_rf (none)) hx hb hr (Or.inl ⟨_, rfl⟩) (va_rf_or _) (fun t ht hW => ⟨⟨none, g, rfl, ⟨(-1), (fun _ => rfl), (fun _ h => by cases h), ⟨rfl, (by omega)⟩⟩, ok1 ht hG⟩, hS.F ht⟩) hS.2.2 dX8_livingOwnerAt_22
  · skip
    obtain rfl : r3 = none := rq_no t_r3 (by omega)
    clear n_r3 t_r3
    refine lv_astore_nN (lv' := [(2, .null), (0, .ref h0), (1, .int p1)]) hx hb dX8_livingOwnerAt_5 rfl hl (by decide) rfl (fun ls hl => ?_)
    refine lv_aload_nN hx hb dX8_livingOwnerAt_6 rfl (lv_at hl 0 rfl) ?_
    refine lv_ifnullN (tgt := 17) hx hb dX8_livingOwnerAt_7 (by decide) ?_
    refine lv_null hx hb dX8_livingOwnerAt_17 ?_
    refine lv_goto (tgt := 22) hx hb dX8_livingOwnerAt_18 (by decide) ?_
    exact W.aret (v := va_rf (none)) hx hb hr (Or.inl ⟨_, rfl⟩) (va_rf_or _) (fun t ht hW => ⟨⟨none, g, rfl, ⟨(-1), (fun _ => rfl), (fun _ h => by cases h), ⟨rfl, (by omega)⟩⟩, ok1 ht hG⟩, hS.F ht⟩) hS.2.2 dX8_livingOwnerAt_22

set_option maxHeartbeats 4000000 in
set_option maxRecDepth 100000 in
/-- WeekBank.giftThatIs:  -/
theorem k_X8_giftThatIs (l : Launch) (dC : Nat → ClassId) (dI : Nat → Nat → Nat) (dA : Nat → ClassId) (sz : Nat) (X : va_W) (Γ : ty_G) (hU : Un Γ) (g : gh) (h0 : Nat) (t_h0 : ty Γ h0 1) (p1 : Int32) (p2 : Int32) (g3 : g 3 0 = g 35 0 ∧ 0 ≤ g 3 0 ∧ g 3 0 ≤ 200) : Met l yX8_giftThatIs (.code yX8_giftThatIs cX8_giftThatIs 4 (Option.some (Jvm.ClassFile.FieldType.object "WeekBank$Gift")) :: AL) ({ frames := 1, cells := 0, slots := 0, locals := 21 }) (PCx dC dI dA sz X Γ g [.ref h0, .int p1, .int p2]) (va_Qq (fun (r : Option Nat) (u : gh) => ∃ z9 : Int, (r = none → z9 = -1) ∧ (∀ b, r = some b → Γ b = (4, z9.toNat) ∧ 0 ≤ z9) ∧ u = g ∧ (((0 ≤ p1.toInt ∧ p1.toInt < g 3 0 ∧ g 65 p1.toInt.toNat = p2.toInt → z9 = p1.toInt) ∧ (¬ (0 ≤ p1.toInt ∧ p1.toInt < g 3 0 ∧ g 65 p1.toInt.toNat = p2.toInt) → z9 = -1)))) (okb dC dI dA sz X Γ) (ty_A sz)) 0 0 (ty_A sz) := by
  refine Met.ofW (cc := cX8_giftThatIs) (maxL := 4) (ret := (Option.some (Jvm.ClassFile.FieldType.object "WeekBank$Gift"))) (by decide) rfl ?_
  intro p e s m args below meth c s₁ B hml hv
  obtain ⟨rfl, hG, hE⟩ := hv
  have hx := B.exec
  have hb := B.bytes
  have hr := B.returns
  have hts := atoms_spec B.pre
  have hA : ∀ w ∈ AL, w.before _ s = true := fun w h => hts w (List.mem_cons_of_mem _ h)
  have hown : s.vm.findClass RX8 = some m.cls := findClass_of_methodNamed B.named
  have hlocks := B.notSynchronized
  have hS : va_S (ty_A sz) s.heap s.heap [] := va_S.rf
  have hl := lv_entry ([.ref h0, .int p1, .int p2]) (n := 4) (Nat.le_of_ble_eq_true rfl)
  rw [lg_entry_eq]
  generalize (lg_sl ([.ref h0, .int p1, .int p2]) ++ List.replicate (4 - (lg_sl ([.ref h0, .int p1, .int p2])).length) Slot.unset).toArray = ls at hl ⊢
  have hl : lv_has ls 4 [(0, .ref h0), (1, .int p1), (2, .int p2)] := hl
  refine lv_aload_n hx hb dX8_giftThatIs_0 rfl (lv_at hl 0 rfl) ?_
  refine lv_iload_n hx hb dX8_giftThatIs_1 rfl (lv_at hl 1 rfl) ?_
  refine cQ (va_runV (C := RX8) (As := [.int p1]) (rest := []) ⟨hx, hb, hml, hown, hA⟩ (k_X8_giftAt l dC dI dA sz X Γ hU g h0 t_h0 p1   (by omega)) ⟨callB_of 1 hA (al_A wd_3_76) rfl rfl rfl (hA _ wd_1_1) (hA _ wd_3_73) (by decide +kernel) ⟨Nat.le_of_ble_eq_true rfl, Nat.le_of_ble_eq_true rfl⟩, hA _ wd_3_75, hA _ ws_18⟩ ⟨bl, recv_X8 hE hG t_h0, fun U hU9 hW9 => ⟨rfl, by rw [hU9]; exact hG, hE.go hS hU9 hW9⟩⟩ rfl rfl hl.1 rfl (lv_room (Nat.le_of_ble_eq_true rfl)) dX8_giftThatIs_2 ⟨Nat.zero_le _, Nat.zero_le _⟩) hS (fun r3 u1 H locs w2 hG hS => ?_)
  obtain ⟨z_r3, n_r3, t_r3, w2⟩ := w2
  obtain ⟨eu4, w2⟩ := w2
  rw [eu4] at hG
  rcases pz_or w2 with w2 | w2
  · skip
    obtain ⟨b5, h6⟩ := Option.ne_none_iff_exists'.mp (fun h9 => absurd (n_r3 h9) (by omega))
    obtain ⟨t_b5, p_b5⟩ := t_r3 b5 h6
    clear t_r3 n_r3
    subst h6
    replace t_b5 : Γ b5 = (4, (p1.toInt).toNat) := by rw [t_b5, show z_r3 = p1.toInt by omega]
    replace p_b5 : 0 ≤ p1.toInt := by omega
    refine lv_astore_n (lv' := [(3, .ref b5), (0, .ref h0), (1, .int p1), (2, .int p2)]) hx hb dX8_giftThatIs_5 rfl hl (by decide) rfl (fun ls hl => ?_)
    refine lv_aload_n hx hb dX8_giftThatIs_6 rfl (lv_at hl 0 rfl) ?_
    refine lv_ifnull hx hb dX8_giftThatIs_7 ?_
    refine lv_aload_n hx hb dX8_giftThatIs_10 rfl (lv_at hl 0 rfl) ?_
    refine get_X2_6 hx hb hA hown hE hG t_b5 wd_3_34 dX8_giftThatIs_11 (fun x7 h8 => ?_)
    refine lv_iload_n hx hb dX8_giftThatIs_14 rfl (lv_at hl 3 rfl) ?_
    refine ty_icmp_eq (tgt := 22) hx hb dX8_giftThatIs_15 (by decide) (fun c10 => ?_) (fun c10 => ?_)
    · skip
      refine lv_aload_n hx hb dX8_giftThatIs_22 rfl (lv_at hl 0 rfl) ?_
      exact W.aret (v := va_rf (some b5)) hx hb hr (Or.inl ⟨_, rfl⟩) (va_rf_or _) (fun t ht hW => ⟨⟨some b5, g, rfl, ⟨(p1.toInt), (rq_z t_b5 p_b5).1, (rq_z t_b5 p_b5).2, ⟨rfl, (by omega)⟩⟩, ok1 ht hG⟩, hS.F ht⟩) hS.2.2 dX8_giftThatIs_23
    · skip
      refine lv_null hx hb dX8_giftThatIs_18 ?_
      refine lv_goto (tgt := 23) hx hb dX8_giftThatIs_19 (by decide) ?_
      exact W.aret (v := va_rf (none)) hx hb hr (Or.inl ⟨_, rfl⟩) (va_rf_or _) (fun t ht hW => ⟨⟨none, g, rfl, ⟨(-1), (fun _ => rfl), (fun _ h => by cases h), ⟨rfl, (by omega)⟩⟩, ok1 ht hG⟩, hS.F ht⟩) hS.2.2 dX8_giftThatIs_23
  · skip
    obtain rfl : r3 = none := rq_no t_r3 (by omega)
    clear n_r3 t_r3
    refine lv_astore_nN (lv' := [(3, .null), (0, .ref h0), (1, .int p1), (2, .int p2)]) hx hb dX8_giftThatIs_5 rfl hl (by decide) rfl (fun ls hl => ?_)
    refine lv_aload_nN hx hb dX8_giftThatIs_6 rfl (lv_at hl 0 rfl) ?_
    refine lv_ifnullN (tgt := 18) hx hb dX8_giftThatIs_7 (by decide) ?_
    refine lv_null hx hb dX8_giftThatIs_18 ?_
    refine lv_goto (tgt := 23) hx hb dX8_giftThatIs_19 (by decide) ?_
    exact W.aret (v := va_rf (none)) hx hb hr (Or.inl ⟨_, rfl⟩) (va_rf_or _) (fun t ht hW => ⟨⟨none, g, rfl, ⟨(-1), (fun _ => rfl), (fun _ h => by cases h), ⟨rfl, (by omega)⟩⟩, ok1 ht hG⟩, hS.F ht⟩) hS.2.2 dX8_giftThatIs_23

set_option maxHeartbeats 4000000 in
set_option maxRecDepth 100000 in
/-- WeekBank.canBeWished:  -/
theorem k_X8_canBeWished (l : Launch) (dC : Nat → ClassId) (dI : Nat → Nat → Nat) (dA : Nat → ClassId) (sz : Nat) (X : va_W) (Γ : ty_G) (hU : Un Γ) (g : gh) (p0 : Int32) (p1 : Int32) (p2 : Int32) (p3 : Int32) : Met l yX8_canBeWished (.code yX8_canBeWished cX8_canBeWished 5 (Option.some Jvm.ClassFile.FieldType.boolean) :: AL) ({ frames := 1, cells := 0, slots := 0, locals := 20 }) (PCx dC dI dA sz X Γ g [.int p0, .int p1, .int p2, .int p3]) (va_Qi (fun (r : Int32) (u : gh) => u = g ∧ (((-1 ≤ p0.toInt ∧ p0.toInt ≤ 3 ∧ 0 ≤ p1.toInt ∧ p1.toInt ≤ 52 ∧ 0 ≤ p2.toInt ∧ p2.toInt ≤ 52 ∧ p1.toInt ≤ p2.toInt ∧ 1 ≤ p3.toInt ∧ p3.toInt ≤ 4 → r.toInt = 1) ∧ (¬ (-1 ≤ p0.toInt ∧ p0.toInt ≤ 3 ∧ 0 ≤ p1.toInt ∧ p1.toInt ≤ 52 ∧ 0 ≤ p2.toInt ∧ p2.toInt ≤ 52 ∧ p1.toInt ≤ p2.toInt ∧ 1 ≤ p3.toInt ∧ p3.toInt ≤ 4) → r.toInt = 0)))) (okb dC dI dA sz X Γ) (ty_A sz)) 0 0 (ty_A sz) := by
  refine Met.ofW (cc := cX8_canBeWished) (maxL := 5) (ret := (Option.some Jvm.ClassFile.FieldType.boolean)) (by decide) rfl ?_
  intro p e s m args below meth c s₁ B hml hv
  obtain ⟨rfl, hG, hE⟩ := hv
  have hx := B.exec
  have hb := B.bytes
  have hr := B.returns
  have hts := atoms_spec B.pre
  have hA : ∀ w ∈ AL, w.before _ s = true := fun w h => hts w (List.mem_cons_of_mem _ h)
  have hown : s.vm.findClass RX8 = some m.cls := findClass_of_methodNamed B.named
  have hlocks := B.notSynchronized
  have hS : va_S (ty_A sz) s.heap s.heap [] := va_S.rf
  have hl := lv_entry ([.int p0, .int p1, .int p2, .int p3]) (n := 5) (Nat.le_of_ble_eq_true rfl)
  rw [lg_entry_eq]
  generalize (lg_sl ([.int p0, .int p1, .int p2, .int p3]) ++ List.replicate (5 - (lg_sl ([.int p0, .int p1, .int p2, .int p3])).length) Slot.unset).toArray = ls at hl ⊢
  have hl : lv_has ls 5 [(0, .int p0), (1, .int p1), (2, .int p2), (3, .int p3)] := hl
  refine lv_iload_n hx hb dX8_canBeWished_0 rfl (lv_at hl 0 rfl) ?_
  refine ty_iconst hx hb (-1) dX8_canBeWished_1 (by decide) (fun x1 h2 => ?_)
  refine ty_icmp_eq (tgt := 14) hx hb dX8_canBeWished_2 (by decide) (fun c3 => ?_) (fun c3 => ?_)
  · skip
    refine ty_iconst hx hb (1) dX8_canBeWished_14 (by decide) (fun x4 h5 => ?_)
    refine lv_goto (tgt := 19) hx hb dX8_canBeWished_15 (by decide) ?_
    refine lv_istore (lv' := [(4, .int x4), (0, .int p0), (1, .int p1), (2, .int p2), (3, .int p3)]) hx hb dX8_canBeWished_19 hl (by decide) rfl (fun ls hl => ?_)
    refine lv_iload hx hb dX8_canBeWished_21 (lv_at hl 0 rfl) ?_
    refine ty_if_eq (tgt := 56) hx hb dX8_canBeWished_23 (by decide) (fun c6 => ?_) (fun c6 => ?_)
    · exfalso; omega
    · skip
      refine lv_iload_n hx hb dX8_canBeWished_26 rfl (lv_at hl 2 rfl) ?_
      refine cI (va_runS (As := [.int p1]) (rest := []) ⟨hx, hb, hml, hown, hA⟩ (k_X8_isWeek l dC dI dA sz X Γ hU g p1   ) ⟨callB_of 1 hA (al_A wd_2_59) rfl rfl rfl (hA _ wd_1_1) (hA _ wd_2_57) (by decide +kernel) ⟨Nat.le_of_ble_eq_true rfl, Nat.le_of_ble_eq_true rfl⟩, hA _ wd_2_58⟩ ⟨bl, fun U hU9 hW9 => ⟨rfl, by rw [hU9]; exact hG, hE.go hS hU9 hW9⟩⟩ rfl rfl hl.1 rfl (lv_room (Nat.le_of_ble_eq_true rfl)) dX8_canBeWished_27 ⟨Nat.zero_le _, Nat.zero_le _⟩) hS (fun x9 u7 H locs w8 hG hS => ?_)
      obtain ⟨eu10, w8⟩ := w8
      rw [eu10] at hG
      rcases pz_or w8 with w8 | w8
      · skip
        refine ty_if_eq (tgt := 56) hx hb dX8_canBeWished_30 (by decide) (fun c11 => ?_) (fun c11 => ?_)
        · exfalso; omega
        · skip
          refine lv_iload_n hx hb dX8_canBeWished_33 rfl (lv_at hl 3 rfl) ?_
          refine cI (va_runS (As := [.int p2]) (rest := []) ⟨hx, hb, hml, hown, hA⟩ (k_X8_isWeek l dC dI dA sz X Γ hU g p2   ) ⟨callB_of 1 hA (al_A wd_2_59) rfl rfl rfl (hA _ wd_1_1) (hA _ wd_2_57) (by decide +kernel) ⟨Nat.le_of_ble_eq_true rfl, Nat.le_of_ble_eq_true rfl⟩, hA _ wd_2_58⟩ ⟨bl, fun U hU9 hW9 => ⟨rfl, by rw [hU9]; exact hG, hE.go hS hU9 hW9⟩⟩ rfl rfl hl.1 rfl (lv_room (Nat.le_of_ble_eq_true rfl)) dX8_canBeWished_34 ⟨Nat.zero_le _, Nat.zero_le _⟩) hS (fun x14 u12 H locs w13 hG hS => ?_)
          obtain ⟨eu15, w13⟩ := w13
          rw [eu15] at hG
          rcases pz_or w13 with w13 | w13
          · skip
            refine ty_if_eq (tgt := 56) hx hb dX8_canBeWished_37 (by decide) (fun c16 => ?_) (fun c16 => ?_)
            · exfalso; omega
            · skip
              refine lv_iload_n hx hb dX8_canBeWished_40 rfl (lv_at hl 2 rfl) ?_
              refine lv_iload_n hx hb dX8_canBeWished_41 rfl (lv_at hl 3 rfl) ?_
              refine ty_icmp_gt (tgt := 56) hx hb dX8_canBeWished_42 (by decide) (fun c17 => ?_) (fun c17 => ?_)
              · skip
                refine ty_iconst hx hb (0) dX8_canBeWished_56 (by decide) (fun x18 h19 => ?_)
                exact W.zret (v := x18) hx hb hr (ty_nb (by omega)).1 (fun t ht hW => ⟨⟨x18, g, rfl, ⟨rfl, (by omega)⟩, ok1 ht hG⟩, hS.F ht⟩) hS.2.2 dX8_canBeWished_57
              · skip
                refine lv_iload_n hx hb dX8_canBeWished_45 rfl (lv_at hl 4 rfl) ?_
                refine cI (va_runS (As := [.int p3]) (rest := []) ⟨hx, hb, hml, hown, hA⟩ (k_X8_isSize l dC dI dA sz X Γ hU g p3   ) ⟨callB_of 1 hA (al_A wd_1_203) rfl rfl rfl (hA _ wd_1_1) (hA _ wd_1_201) (by decide +kernel) ⟨Nat.le_of_ble_eq_true rfl, Nat.le_of_ble_eq_true rfl⟩, hA _ wd_1_202⟩ ⟨bl, fun U hU9 hW9 => ⟨rfl, by rw [hU9]; exact hG, hE.go hS hU9 hW9⟩⟩ rfl rfl hl.1 rfl (lv_room (Nat.le_of_ble_eq_true rfl)) dX8_canBeWished_46 ⟨Nat.zero_le _, Nat.zero_le _⟩) hS (fun x22 u20 H locs w21 hG hS => ?_)
                obtain ⟨eu23, w21⟩ := w21
                rw [eu23] at hG
                rcases pz_or w21 with w21 | w21
                · skip
                  refine ty_if_eq (tgt := 56) hx hb dX8_canBeWished_49 (by decide) (fun c24 => ?_) (fun c24 => ?_)
                  · exfalso; omega
                  · skip
                    refine ty_iconst hx hb (1) dX8_canBeWished_52 (by decide) (fun x25 h26 => ?_)
                    refine lv_goto (tgt := 57) hx hb dX8_canBeWished_53 (by decide) ?_
                    exact W.zret (v := x25) hx hb hr (ty_nb (by omega)).1 (fun t ht hW => ⟨⟨x25, g, rfl, ⟨rfl, (by omega)⟩, ok1 ht hG⟩, hS.F ht⟩) hS.2.2 dX8_canBeWished_57
                · skip
                  refine ty_if_eq (tgt := 56) hx hb dX8_canBeWished_49 (by decide) (fun c27 => ?_) (fun c27 => ?_)
                  · skip
                    refine ty_iconst hx hb (0) dX8_canBeWished_56 (by decide) (fun x28 h29 => ?_)
                    exact W.zret (v := x28) hx hb hr (ty_nb (by omega)).1 (fun t ht hW => ⟨⟨x28, g, rfl, ⟨rfl, (by omega)⟩, ok1 ht hG⟩, hS.F ht⟩) hS.2.2 dX8_canBeWished_57
                  · exfalso; omega
          · skip
            refine ty_if_eq (tgt := 56) hx hb dX8_canBeWished_37 (by decide) (fun c30 => ?_) (fun c30 => ?_)
            · skip
              refine ty_iconst hx hb (0) dX8_canBeWished_56 (by decide) (fun x31 h32 => ?_)
              exact W.zret (v := x31) hx hb hr (ty_nb (by omega)).1 (fun t ht hW => ⟨⟨x31, g, rfl, ⟨rfl, (by omega)⟩, ok1 ht hG⟩, hS.F ht⟩) hS.2.2 dX8_canBeWished_57
            · exfalso; omega
      · skip
        refine ty_if_eq (tgt := 56) hx hb dX8_canBeWished_30 (by decide) (fun c33 => ?_) (fun c33 => ?_)
        · skip
          refine ty_iconst hx hb (0) dX8_canBeWished_56 (by decide) (fun x34 h35 => ?_)
          exact W.zret (v := x34) hx hb hr (ty_nb (by omega)).1 (fun t ht hW => ⟨⟨x34, g, rfl, ⟨rfl, (by omega)⟩, ok1 ht hG⟩, hS.F ht⟩) hS.2.2 dX8_canBeWished_57
        · exfalso; omega
  · skip
    refine lv_iload_n hx hb dX8_canBeWished_5 rfl (lv_at hl 0 rfl) ?_
    refine ty_if_lt (tgt := 18) hx hb dX8_canBeWished_6 (by decide) (fun c36 => ?_) (fun c36 => ?_)
    · skip
      refine ty_iconst hx hb (0) dX8_canBeWished_18 (by decide) (fun x37 h38 => ?_)
      refine lv_istore (lv' := [(4, .int x37), (0, .int p0), (1, .int p1), (2, .int p2), (3, .int p3)]) hx hb dX8_canBeWished_19 hl (by decide) rfl (fun ls hl => ?_)
      refine lv_iload hx hb dX8_canBeWished_21 (lv_at hl 0 rfl) ?_
      refine ty_if_eq (tgt := 56) hx hb dX8_canBeWished_23 (by decide) (fun c39 => ?_) (fun c39 => ?_)
      · skip
        refine ty_iconst hx hb (0) dX8_canBeWished_56 (by decide) (fun x40 h41 => ?_)
        exact W.zret (v := x40) hx hb hr (ty_nb (by omega)).1 (fun t ht hW => ⟨⟨x40, g, rfl, ⟨rfl, (by omega)⟩, ok1 ht hG⟩, hS.F ht⟩) hS.2.2 dX8_canBeWished_57
      · exfalso; omega
    · skip
      refine lv_iload_n hx hb dX8_canBeWished_9 rfl (lv_at hl 0 rfl) ?_
      refine ty_iconst hx hb (3) dX8_canBeWished_10 (by decide) (fun x42 h43 => ?_)
      refine ty_icmp_gt (tgt := 18) hx hb dX8_canBeWished_11 (by decide) (fun c44 => ?_) (fun c44 => ?_)
      · skip
        refine ty_iconst hx hb (0) dX8_canBeWished_18 (by decide) (fun x45 h46 => ?_)
        refine lv_istore (lv' := [(4, .int x45), (0, .int p0), (1, .int p1), (2, .int p2), (3, .int p3)]) hx hb dX8_canBeWished_19 hl (by decide) rfl (fun ls hl => ?_)
        refine lv_iload hx hb dX8_canBeWished_21 (lv_at hl 0 rfl) ?_
        refine ty_if_eq (tgt := 56) hx hb dX8_canBeWished_23 (by decide) (fun c47 => ?_) (fun c47 => ?_)
        · skip
          refine ty_iconst hx hb (0) dX8_canBeWished_56 (by decide) (fun x48 h49 => ?_)
          exact W.zret (v := x48) hx hb hr (ty_nb (by omega)).1 (fun t ht hW => ⟨⟨x48, g, rfl, ⟨rfl, (by omega)⟩, ok1 ht hG⟩, hS.F ht⟩) hS.2.2 dX8_canBeWished_57
        · exfalso; omega
      · skip
        refine ty_iconst hx hb (1) dX8_canBeWished_14 (by decide) (fun x50 h51 => ?_)
        refine lv_goto (tgt := 19) hx hb dX8_canBeWished_15 (by decide) ?_
        refine lv_istore (lv' := [(4, .int x50), (0, .int p0), (1, .int p1), (2, .int p2), (3, .int p3)]) hx hb dX8_canBeWished_19 hl (by decide) rfl (fun ls hl => ?_)
        refine lv_iload hx hb dX8_canBeWished_21 (lv_at hl 0 rfl) ?_
        refine ty_if_eq (tgt := 56) hx hb dX8_canBeWished_23 (by decide) (fun c52 => ?_) (fun c52 => ?_)
        · exfalso; omega
        · skip
          refine lv_iload_n hx hb dX8_canBeWished_26 rfl (lv_at hl 2 rfl) ?_
          refine cI (va_runS (As := [.int p1]) (rest := []) ⟨hx, hb, hml, hown, hA⟩ (k_X8_isWeek l dC dI dA sz X Γ hU g p1   ) ⟨callB_of 1 hA (al_A wd_2_59) rfl rfl rfl (hA _ wd_1_1) (hA _ wd_2_57) (by decide +kernel) ⟨Nat.le_of_ble_eq_true rfl, Nat.le_of_ble_eq_true rfl⟩, hA _ wd_2_58⟩ ⟨bl, fun U hU9 hW9 => ⟨rfl, by rw [hU9]; exact hG, hE.go hS hU9 hW9⟩⟩ rfl rfl hl.1 rfl (lv_room (Nat.le_of_ble_eq_true rfl)) dX8_canBeWished_27 ⟨Nat.zero_le _, Nat.zero_le _⟩) hS (fun x55 u53 H locs w54 hG hS => ?_)
          obtain ⟨eu56, w54⟩ := w54
          rw [eu56] at hG
          rcases pz_or w54 with w54 | w54
          · skip
            refine ty_if_eq (tgt := 56) hx hb dX8_canBeWished_30 (by decide) (fun c57 => ?_) (fun c57 => ?_)
            · exfalso; omega
            · skip
              refine lv_iload_n hx hb dX8_canBeWished_33 rfl (lv_at hl 3 rfl) ?_
              refine cI (va_runS (As := [.int p2]) (rest := []) ⟨hx, hb, hml, hown, hA⟩ (k_X8_isWeek l dC dI dA sz X Γ hU g p2   ) ⟨callB_of 1 hA (al_A wd_2_59) rfl rfl rfl (hA _ wd_1_1) (hA _ wd_2_57) (by decide +kernel) ⟨Nat.le_of_ble_eq_true rfl, Nat.le_of_ble_eq_true rfl⟩, hA _ wd_2_58⟩ ⟨bl, fun U hU9 hW9 => ⟨rfl, by rw [hU9]; exact hG, hE.go hS hU9 hW9⟩⟩ rfl rfl hl.1 rfl (lv_room (Nat.le_of_ble_eq_true rfl)) dX8_canBeWished_34 ⟨Nat.zero_le _, Nat.zero_le _⟩) hS (fun x60 u58 H locs w59 hG hS => ?_)
              obtain ⟨eu61, w59⟩ := w59
              rw [eu61] at hG
              rcases pz_or w59 with w59 | w59
              · skip
                refine ty_if_eq (tgt := 56) hx hb dX8_canBeWished_37 (by decide) (fun c62 => ?_) (fun c62 => ?_)
                · exfalso; omega
                · skip
                  refine lv_iload_n hx hb dX8_canBeWished_40 rfl (lv_at hl 2 rfl) ?_
                  refine lv_iload_n hx hb dX8_canBeWished_41 rfl (lv_at hl 3 rfl) ?_
                  refine ty_icmp_gt (tgt := 56) hx hb dX8_canBeWished_42 (by decide) (fun c63 => ?_) (fun c63 => ?_)
                  · skip
                    refine ty_iconst hx hb (0) dX8_canBeWished_56 (by decide) (fun x64 h65 => ?_)
                    exact W.zret (v := x64) hx hb hr (ty_nb (by omega)).1 (fun t ht hW => ⟨⟨x64, g, rfl, ⟨rfl, (by omega)⟩, ok1 ht hG⟩, hS.F ht⟩) hS.2.2 dX8_canBeWished_57
                  · skip
                    refine lv_iload_n hx hb dX8_canBeWished_45 rfl (lv_at hl 4 rfl) ?_
                    refine cI (va_runS (As := [.int p3]) (rest := []) ⟨hx, hb, hml, hown, hA⟩ (k_X8_isSize l dC dI dA sz X Γ hU g p3   ) ⟨callB_of 1 hA (al_A wd_1_203) rfl rfl rfl (hA _ wd_1_1) (hA _ wd_1_201) (by decide +kernel) ⟨Nat.le_of_ble_eq_true rfl, Nat.le_of_ble_eq_true rfl⟩, hA _ wd_1_202⟩ ⟨bl, fun U hU9 hW9 => ⟨rfl, by rw [hU9]; exact hG, hE.go hS hU9 hW9⟩⟩ rfl rfl hl.1 rfl (lv_room (Nat.le_of_ble_eq_true rfl)) dX8_canBeWished_46 ⟨Nat.zero_le _, Nat.zero_le _⟩) hS (fun x68 u66 H locs w67 hG hS => ?_)
                    obtain ⟨eu69, w67⟩ := w67
                    rw [eu69] at hG
                    rcases pz_or w67 with w67 | w67
                    · skip
                      refine ty_if_eq (tgt := 56) hx hb dX8_canBeWished_49 (by decide) (fun c70 => ?_) (fun c70 => ?_)
                      · exfalso; omega
                      · skip
                        refine ty_iconst hx hb (1) dX8_canBeWished_52 (by decide) (fun x71 h72 => ?_)
                        refine lv_goto (tgt := 57) hx hb dX8_canBeWished_53 (by decide) ?_
                        exact W.zret (v := x71) hx hb hr (ty_nb (by omega)).1 (fun t ht hW => ⟨⟨x71, g, rfl, ⟨rfl, (by omega)⟩, ok1 ht hG⟩, hS.F ht⟩) hS.2.2 dX8_canBeWished_57
                    · skip
                      refine ty_if_eq (tgt := 56) hx hb dX8_canBeWished_49 (by decide) (fun c73 => ?_) (fun c73 => ?_)
                      · skip
                        refine ty_iconst hx hb (0) dX8_canBeWished_56 (by decide) (fun x74 h75 => ?_)
                        exact W.zret (v := x74) hx hb hr (ty_nb (by omega)).1 (fun t ht hW => ⟨⟨x74, g, rfl, ⟨rfl, (by omega)⟩, ok1 ht hG⟩, hS.F ht⟩) hS.2.2 dX8_canBeWished_57
                      · exfalso; omega
              · skip
                refine ty_if_eq (tgt := 56) hx hb dX8_canBeWished_37 (by decide) (fun c76 => ?_) (fun c76 => ?_)
                · skip
                  refine ty_iconst hx hb (0) dX8_canBeWished_56 (by decide) (fun x77 h78 => ?_)
                  exact W.zret (v := x77) hx hb hr (ty_nb (by omega)).1 (fun t ht hW => ⟨⟨x77, g, rfl, ⟨rfl, (by omega)⟩, ok1 ht hG⟩, hS.F ht⟩) hS.2.2 dX8_canBeWished_57
                · exfalso; omega
          · skip
            refine ty_if_eq (tgt := 56) hx hb dX8_canBeWished_30 (by decide) (fun c79 => ?_) (fun c79 => ?_)
            · skip
              refine ty_iconst hx hb (0) dX8_canBeWished_56 (by decide) (fun x80 h81 => ?_)
              exact W.zret (v := x80) hx hb hr (ty_nb (by omega)).1 (fun t ht hW => ⟨⟨x80, g, rfl, ⟨rfl, (by omega)⟩, ok1 ht hG⟩, hS.F ht⟩) hS.2.2 dX8_canBeWished_57
            · exfalso; omega

set_option maxHeartbeats 4000000 in
set_option maxRecDepth 100000 in
/-- WeekBank.countGifts:  -/
theorem k_X8_countGifts (l : Launch) (dC : Nat → ClassId) (dI : Nat → Nat → Nat) (dA : Nat → ClassId) (sz : Nat) (X : va_W) (Γ : ty_G) (hU : Un Γ) (g : gh) (h0 : Nat) (t_h0 : ty Γ h0 1) (p1 : Int32) (g3 : g 3 0 = g 35 0 ∧ 0 ≤ g 3 0 ∧ g 3 0 ≤ 200) : Met l yX8_countGifts (.code yX8_countGifts cX8_countGifts 4 (Option.some Jvm.ClassFile.FieldType.int) :: AL) ({ frames := 0, cells := 0, slots := 0, locals := 0 }) (PCx dC dI dA sz X Γ g [.ref h0, .int p1]) (va_Qi (fun (r : Int32) (u : gh) => u = g ∧ ((r.toInt = (cnt (g 3 0).toNat (g 65) p1.toInt : Int)))) (okb dC dI dA sz X Γ) (ty_A sz)) 0 0 (ty_A sz) := by
  refine Met.ofW (cc := cX8_countGifts) (maxL := 4) (ret := (Option.some Jvm.ClassFile.FieldType.int)) (by decide) rfl ?_
  intro p e s m args below meth c s₁ B hml hv
  obtain ⟨rfl, hG, hE⟩ := hv
  have hx := B.exec
  have hb := B.bytes
  have hr := B.returns
  have hts := atoms_spec B.pre
  have hA : ∀ w ∈ AL, w.before _ s = true := fun w h => hts w (List.mem_cons_of_mem _ h)
  have hown : s.vm.findClass RX8 = some m.cls := findClass_of_methodNamed B.named
  have hlocks := B.notSynchronized
  have hS : va_S (ty_A sz) s.heap s.heap [] := va_S.rf
  have hl := lv_entry ([.ref h0, .int p1]) (n := 4) (Nat.le_of_ble_eq_true rfl)
  rw [lg_entry_eq]
  generalize (lg_sl ([.ref h0, .int p1]) ++ List.replicate (4 - (lg_sl ([.ref h0, .int p1])).length) Slot.unset).toArray = ls at hl ⊢
  have hl : lv_has ls 4 [(0, .ref h0), (1, .int p1)] := hl
  refine ty_iconst hx hb (0) dX8_countGifts_0 (by decide) (fun x1 h2 => ?_)
  refine lv_istore_n (lv' := [(2, .int x1), (0, .ref h0), (1, .int p1)]) hx hb dX8_countGifts_1 rfl hl (by decide) rfl (fun ls hl => ?_)
  refine ty_iconst hx hb (0) dX8_countGifts_2 (by decide) (fun x3 h4 => ?_)
  refine lv_istore_n (lv' := [(3, .int x3), (2, .int x1), (0, .ref h0), (1, .int p1)]) hx hb dX8_countGifts_3 rfl hl (by decide) rfl (fun ls hl => ?_)
  have L_4 : ∀ (n : Nat) (v3_4 : Int32) (v2_4 : Int32) (H : Heap) (locs : List Loc) (ls : Array Slot), (g 3 0 - v3_4.toInt : Int) < n → 0 ≤ v3_4.toInt ∧ v3_4.toInt ≤ g 3 0 → v2_4.toInt = (cnt v3_4.toInt.toNat (g 65) p1.toInt : Int) → ty_ok (dC, dI) vwCl Γ (TP dA Γ g) sz X H → va_S (ty_A sz) s.heap H locs → lv_has ls 4 [(3, .int v3_4), (2, .int v2_4), (0, .ref h0), (1, .int p1)] → W p l e (headSpec (.code yX8_countGifts cX8_countGifts 4 (Option.some Jvm.ClassFile.FieldType.int) :: AL) ({ frames := 0, cells := 0, slots := 0, locals := 0 })).room s m ([.ref h0, .int p1] : List Value).toArray below meth c H locs 0 0 (MQ below (va_Qi (fun (r : Int32) (u : gh) => u = g ∧ ((r.toInt = (cnt (g 3 0).toNat (g 65) p1.toInt : Int)))) (okb dC dI dA sz X Γ) (ty_A sz)) ([.ref h0, .int p1] : List Value).toArray s 0 0 (ty_A sz)) (F0 m 4 ls []) := by
    intro n
    induction n with
    | zero => intro v3_4 v2_4 H locs ls hm hi0 hi1 hG hS hl; exfalso; omega
    | succ n ih_4 =>
      intro v3_4 v2_4 H locs ls hm hi0 hi1 hG hS hl
      refine lv_iload_n hx hb dX8_countGifts_4 rfl (lv_at hl 0 rfl) ?_
      refine lv_aload_n hx hb dX8_countGifts_5 rfl (lv_at hl 2 rfl) ?_
      refine get_X8_5 hx hb hA hown hE hG t_h0 wd_1_162 dX8_countGifts_6 (fun x6 h7 => ?_)
      refine ty_icmp_ge (tgt := 34) hx hb dX8_countGifts_9 (by decide) (fun c9 => ?_) (fun c9 => ?_)
      · skip
        refine lv_iload_n hx hb dX8_countGifts_34 rfl (lv_at hl 1 rfl) ?_
        exact W.iret (v := v2_4) hx hb hr (fun t ht hW => ⟨⟨v2_4, g, rfl, ⟨rfl, (by rw [show (g 3 0).toNat = v3_4.toInt.toNat by omega]; omega)⟩, ok1 ht hG⟩, hS.F ht⟩) hS.2.2 dX8_countGifts_35
      · skip
        refine lv_aload_n hx hb dX8_countGifts_12 rfl (lv_at hl 2 rfl) ?_
        refine get_X8_4 hx hb hA hown hE hG t_h0 wd_1_161 dX8_countGifts_13 (fun b10 (t_b10 : ty Γ b10 12) => ?_)
        refine lv_iload_n hx hb dX8_countGifts_16 rfl (lv_at hl 0 rfl) ?_
        refine ald_12 hx hb hE hG t_b10 (by omega) dX8_countGifts_17 (fun j12 r11 h13 t_r11 h14 => ?_)
        obtain rfl : j12 = v3_4.toInt.toNat := by omega
        obtain ⟨b15, h16⟩ := Option.ne_none_iff_exists'.mp (h14 (by omega))
        have t_b15 := t_r11 b15 h16
        clear h14 t_r11
        subst h16
        refine get_X2_6 hx hb hA hown hE hG t_b15 wd_3_34 dX8_countGifts_18 (fun x17 h18 => ?_)
        refine lv_iload_n hx hb dX8_countGifts_21 rfl (lv_at hl 3 rfl) ?_
        have hcl := cnt_le v3_4.toInt.toNat (g 65) p1.toInt
        refine ty_icmp_ne (tgt := 28) hx hb dX8_countGifts_22 (by decide) (fun c20 => ?_) (fun c20 => ?_)
        · skip
          obtain ⟨x21, h22⟩ : ∃ y : Int32, y = v3_4 + Int32.ofInt (1) := ⟨_, rfl⟩
          try have h23 : x21.toInt = v3_4.toInt + (1) := ty_inc h22 (by decide) (by omega) (by omega)
          refine lv_iinc (v := x21) (lv' := [(3, .int x21), (2, .int v2_4), (0, .ref h0), (1, .int p1)]) hx hb dX8_countGifts_28 hl (k := 0) rfl h22.symm (by decide) rfl (fun ls hl => ?_)
          have hc9 := cnt_at (g 65) p1.toInt (i := v3_4) (i' := x21) (by omega) (by omega)
          refine lv_goto (tgt := 4) hx hb dX8_countGifts_31 (by decide) ?_
          exact ih_4 x21 v2_4 _ _ ls (by omega) (by omega) (by omega) hG hS (lv_sub hl [0, 1, 2, 3] rfl)
        · skip
          obtain ⟨x24, h25⟩ : ∃ y : Int32, y = v2_4 + Int32.ofInt (1) := ⟨_, rfl⟩
          try have h26 : x24.toInt = v2_4.toInt + (1) := ty_inc h25 (by decide) (by omega) (by omega)
          refine lv_iinc (v := x24) (lv' := [(2, .int x24), (3, .int v3_4), (0, .ref h0), (1, .int p1)]) hx hb dX8_countGifts_25 hl (k := 1) rfl h25.symm (by decide) rfl (fun ls hl => ?_)
          obtain ⟨x27, h28⟩ : ∃ y : Int32, y = v3_4 + Int32.ofInt (1) := ⟨_, rfl⟩
          try have h29 : x27.toInt = v3_4.toInt + (1) := ty_inc h28 (by decide) (by omega) (by omega)
          refine lv_iinc (v := x27) (lv' := [(3, .int x27), (2, .int x24), (0, .ref h0), (1, .int p1)]) hx hb dX8_countGifts_28 hl (k := 1) rfl h28.symm (by decide) rfl (fun ls hl => ?_)
          have hc9 := cnt_at (g 65) p1.toInt (i := v3_4) (i' := x27) (by omega) (by omega)
          refine lv_goto (tgt := 4) hx hb dX8_countGifts_31 (by decide) ?_
          exact ih_4 x27 x24 _ _ ls (by omega) (by omega) (by omega) hG hS (lv_sub hl [0, 1, 2, 3] rfl)
  have hc0 : cnt x3.toInt.toNat (g 65) p1.toInt = 0 := by rw [show x3.toInt.toNat = 0 by omega]; rfl
  exact L_4 ((g 3 0 - x3.toInt) + 1).toNat x3 x1 _ _ ls (by omega) (by omega) (by omega) hG hS (lv_sub hl [0, 1, 2, 3] rfl)

set_option maxHeartbeats 4000000 in
set_option maxRecDepth 100000 in
/-- WeekBank.sumPoints:  -/
theorem k_X8_sumPoints (l : Launch) (dC : Nat → ClassId) (dI : Nat → Nat → Nat) (dA : Nat → ClassId) (sz : Nat) (X : va_W) (Γ : ty_G) (hU : Un Γ) (g : gh) (h0 : Nat) (t_h0 : ty Γ h0 1) (g2 : g 2 0 = g 34 0 ∧ 0 ≤ g 2 0 ∧ g 2 0 ≤ 10) : Met l yX8_sumPoints (.code yX8_sumPoints cX8_sumPoints 3 (Option.some Jvm.ClassFile.FieldType.int) :: AL) ({ frames := 0, cells := 0, slots := 0, locals := 0 }) (PCx dC dI dA sz X Γ g [.ref h0]) (va_Qi (fun (r : Int32) (u : gh) => u = g ∧ (r.toInt = sp_f (g 51) (g 2 0).toNat)) (okb dC dI dA sz X Γ) (ty_A sz)) 0 0 (ty_A sz) := by
  refine Met.ofW (cc := cX8_sumPoints) (maxL := 3) (ret := (Option.some Jvm.ClassFile.FieldType.int)) (by decide) rfl ?_
  intro p e s m args below meth c s₁ B hml hv
  obtain ⟨rfl, hG, hE⟩ := hv
  have hx := B.exec
  have hb := B.bytes
  have hr := B.returns
  have hts := atoms_spec B.pre
  have hA : ∀ w ∈ AL, w.before _ s = true := fun w h => hts w (List.mem_cons_of_mem _ h)
  have hown : s.vm.findClass RX8 = some m.cls := findClass_of_methodNamed B.named
  have hlocks := B.notSynchronized
  have hS : va_S (ty_A sz) s.heap s.heap [] := va_S.rf
  have hl := lv_entry ([.ref h0]) (n := 3) (Nat.le_of_ble_eq_true rfl)
  rw [lg_entry_eq]
  generalize (lg_sl ([.ref h0]) ++ List.replicate (3 - (lg_sl ([.ref h0])).length) Slot.unset).toArray = ls at hl ⊢
  have hl : lv_has ls 3 [(0, .ref h0)] := hl
  refine ty_iconst hx hb (0) dX8_sumPoints_0 (by decide) (fun x1 h2 => ?_)
  refine lv_istore_n (lv' := [(1, .int x1), (0, .ref h0)]) hx hb dX8_sumPoints_1 rfl hl (by decide) rfl (fun ls hl => ?_)
  refine ty_iconst hx hb (0) dX8_sumPoints_2 (by decide) (fun x3 h4 => ?_)
  refine lv_istore_n (lv' := [(2, .int x3), (1, .int x1), (0, .ref h0)]) hx hb dX8_sumPoints_3 rfl hl (by decide) rfl (fun ls hl => ?_)
  have L_4 : ∀ (n : Nat) (v2_4 : Int32) (v1_4 : Int32) (H : Heap) (locs : List Loc) (ls : Array Slot), (g 2 0 - v2_4.toInt : Int) < n → 0 ≤ v2_4.toInt ∧ v2_4.toInt ≤ g 2 0 → (v1_4.toInt = sp_f (g 51) v2_4.toInt.toNat) → ty_ok (dC, dI) vwCl Γ (TP dA Γ g) sz X H → va_S (ty_A sz) s.heap H locs → lv_has ls 3 [(2, .int v2_4), (1, .int v1_4), (0, .ref h0)] → W p l e (headSpec (.code yX8_sumPoints cX8_sumPoints 3 (Option.some Jvm.ClassFile.FieldType.int) :: AL) ({ frames := 0, cells := 0, slots := 0, locals := 0 })).room s m ([.ref h0] : List Value).toArray below meth c H locs 0 0 (MQ below (va_Qi (fun (r : Int32) (u : gh) => u = g ∧ (r.toInt = sp_f (g 51) (g 2 0).toNat)) (okb dC dI dA sz X Γ) (ty_A sz)) ([.ref h0] : List Value).toArray s 0 0 (ty_A sz)) (F0 m 4 ls []) := by
    intro n
    induction n with
    | zero => intro v2_4 v1_4 H locs ls hm hi0 hq0 hG hS hl; exfalso; omega
    | succ n ih_4 =>
      intro v2_4 v1_4 H locs ls hm hi0 hq0 hG hS hl
      refine lv_iload_n hx hb dX8_sumPoints_4 rfl (lv_at hl 0 rfl) ?_
      refine lv_aload_n hx hb dX8_sumPoints_5 rfl (lv_at hl 2 rfl) ?_
      refine get_X8_3 hx hb hA hown hE hG t_h0 wd_1_160 dX8_sumPoints_6 (fun x6 h7 => ?_)
      refine ty_icmp_ge (tgt := 30) hx hb dX8_sumPoints_9 (by decide) (fun c9 => ?_) (fun c9 => ?_)
      · skip
        refine lv_iload_n hx hb dX8_sumPoints_30 rfl (lv_at hl 1 rfl) ?_
        exact W.iret (v := v1_4) hx hb hr (fun t ht hW => ⟨⟨v1_4, g, rfl, ⟨rfl, (by rw [hq0, show v2_4.toInt.toNat = (g 2 0).toNat by omega])⟩, ok1 ht hG⟩, hS.F ht⟩) hS.2.2 dX8_sumPoints_31
      · skip
        refine lv_iload_n hx hb dX8_sumPoints_12 rfl (lv_at hl 1 rfl) ?_
        refine lv_aload_n hx hb dX8_sumPoints_13 rfl (lv_at hl 2 rfl) ?_
        refine get_X8_2 hx hb hA hown hE hG t_h0 wd_1_159 dX8_sumPoints_14 (fun b10 (t_b10 : ty Γ b10 11) => ?_)
        refine lv_iload_n hx hb dX8_sumPoints_17 rfl (lv_at hl 0 rfl) ?_
        refine ald_11 hx hb hE hG t_b10 (by omega) dX8_sumPoints_18 (fun j12 r11 h13 t_r11 h14 => ?_)
        obtain rfl : j12 = v2_4.toInt.toNat := by omega
        obtain ⟨b15, h16⟩ := Option.ne_none_iff_exists'.mp (h14 (by omega))
        have t_b15 := t_r11 b15 h16
        clear h14 t_r11
        subst h16
        refine get_X3_2 hx hb hA hown hE hG t_b15 wd_2_12 dX8_sumPoints_19 (fun x17 h18 => ?_)
        refine ty_iadd hx hb dX8_sumPoints_22 (fun x20 h21 => ?_)
        have h22 : x20.toInt = wa (v1_4.toInt) (g 51 v2_4.toInt.toNat) := by rw [ty_wa h21, h18]
        refine lv_istore_n (lv' := [(1, .int x20), (2, .int v2_4), (0, .ref h0)]) hx hb dX8_sumPoints_23 rfl hl (by decide) rfl (fun ls hl => ?_)
        obtain ⟨x23, h24⟩ : ∃ y : Int32, y = v2_4 + Int32.ofInt (1) := ⟨_, rfl⟩
        try have h25 : x23.toInt = v2_4.toInt + (1) := ty_inc h24 (by decide) (by omega) (by omega)
        refine lv_iinc (v := x23) (lv' := [(2, .int x23), (1, .int x20), (0, .ref h0)]) hx hb dX8_sumPoints_24 hl (k := 1) rfl h24.symm (by decide) rfl (fun ls hl => ?_)
        refine lv_goto (tgt := 4) hx hb dX8_sumPoints_27 (by decide) ?_
        exact ih_4 x23 x20 _ _ ls (by omega) (by omega) (by rw [show x23.toInt.toNat = v2_4.toInt.toNat + 1 by omega, h22, hq0]; rfl) hG hS (lv_sub hl [0, 1, 2] rfl)
  exact L_4 ((g 2 0 - x3.toInt) + 1).toNat x3 x1 _ _ ls (by omega) (by omega) (by rw [show x3.toInt.toNat = 0 by omega]; show _ = (0 : Int); omega) hG hS (lv_sub hl [0, 1, 2] rfl)

set_option maxHeartbeats 4000000 in
set_option maxRecDepth 100000 in
/-- WeekBank.endUnusedGifts:  -/
theorem k_X8_endUnusedGifts (l : Launch) (dC : Nat → ClassId) (dI : Nat → Nat → Nat) (dA : Nat → ClassId) (sz : Nat) (X : va_W) (Γ : ty_G) (hU : Un Γ) (g : gh) (h0 : Nat) (t_h0 : ty Γ h0 1) (p1 : Int32) (g3 : g 3 0 = g 35 0 ∧ 0 ≤ g 3 0 ∧ g 3 0 ≤ 200) : Met l yX8_endUnusedGifts (.code yX8_endUnusedGifts cX8_endUnusedGifts 5 (Option.none : Option Jvm.ClassFile.FieldType) :: AL) ({ frames := 0, cells := 0, slots := 0, locals := 0 }) (PCx dC dI dA sz X Γ g [.ref h0, .int p1]) (va_Qv (fun (u : gh) => (∀ c j : Nat, c ≠ 65 → u c j = g c j) ∧ (u 65 = eu_f (g 65) (g 62) p1.toInt (g 3 0).toNat)) (okb dC dI dA sz X Γ) (ty_A sz)) 0 0 (ty_A sz) := by
  refine Met.ofW (cc := cX8_endUnusedGifts) (maxL := 5) (ret := (Option.none : Option Jvm.ClassFile.FieldType)) (by decide) rfl ?_
  intro p e s m args below meth c s₁ B hml hv
  obtain ⟨rfl, hG, hE⟩ := hv
  have hx := B.exec
  have hb := B.bytes
  have hr := B.returns
  have hts := atoms_spec B.pre
  have hA : ∀ w ∈ AL, w.before _ s = true := fun w h => hts w (List.mem_cons_of_mem _ h)
  have hown : s.vm.findClass RX8 = some m.cls := findClass_of_methodNamed B.named
  have hlocks := B.notSynchronized
  have hS : va_S (ty_A sz) s.heap s.heap [] := va_S.rf
  have hl := lv_entry ([.ref h0, .int p1]) (n := 5) (Nat.le_of_ble_eq_true rfl)
  rw [lg_entry_eq]
  generalize (lg_sl ([.ref h0, .int p1]) ++ List.replicate (5 - (lg_sl ([.ref h0, .int p1])).length) Slot.unset).toArray = ls at hl ⊢
  have hl : lv_has ls 5 [(0, .ref h0), (1, .int p1)] := hl
  refine ty_iconst hx hb (0) dX8_endUnusedGifts_0 (by decide) (fun x1 h2 => ?_)
  refine lv_istore_n (lv' := [(2, .int x1), (0, .ref h0), (1, .int p1)]) hx hb dX8_endUnusedGifts_1 rfl hl (by decide) rfl (fun ls hl => ?_)
  have L_2 : ∀ (n : Nat) (v2_2 : Int32) (g3 : gh) (H : Heap) (locs : List Loc) (ls : Array Slot), (g3 3 0 - v2_2.toInt : Int) < n → 0 ≤ v2_2.toInt ∧ v2_2.toInt ≤ g3 3 0 → (∀ c j : Nat, c ≠ 65 → g3 c j = g c j) → (g3 65 = eu_f (g 65) (g 62) p1.toInt v2_2.toInt.toNat) → ty_ok (dC, dI) vwCl Γ (TP dA Γ g3) sz X H → va_S (ty_A sz) s.heap H locs → lv_has ls 5 [(2, .int v2_2), (0, .ref h0), (1, .int p1)] → W p l e (headSpec (.code yX8_endUnusedGifts cX8_endUnusedGifts 5 (Option.none : Option Jvm.ClassFile.FieldType) :: AL) ({ frames := 0, cells := 0, slots := 0, locals := 0 })).room s m ([.ref h0, .int p1] : List Value).toArray below meth c H locs 0 0 (MQ below (va_Qv (fun (u : gh) => (∀ c j : Nat, c ≠ 65 → u c j = g c j) ∧ (u 65 = eu_f (g 65) (g 62) p1.toInt (g 3 0).toNat)) (okb dC dI dA sz X Γ) (ty_A sz)) ([.ref h0, .int p1] : List Value).toArray s 0 0 (ty_A sz)) (F0 m 2 ls []) := by
    intro n
    induction n with
    | zero => intro v2_2 g3 H locs ls hm hi0 hf4 hq0 hG hS hl; exfalso; omega
    | succ n ih_2 =>
      intro v2_2 g3 H locs ls hm hi0 hf4 hq0 hG hS hl
      have hk5 : g3 3 0 = g 3 0 := hf4 3 0 (by decide)
      have he9 : g3 65 v2_2.toInt.toNat = g 65 v2_2.toInt.toNat := by rw [hq0]; exact eu_at
      refine lv_iload_n hx hb dX8_endUnusedGifts_2 rfl (lv_at hl 0 rfl) ?_
      refine lv_aload_n hx hb dX8_endUnusedGifts_3 rfl (lv_at hl 1 rfl) ?_
      refine get_X8_5 hx hb hA hown hE hG t_h0 wd_1_162 dX8_endUnusedGifts_4 (fun x6 h7 => ?_)
      refine ty_icmp_ge (tgt := 63) hx hb dX8_endUnusedGifts_7 (by decide) (fun c9 => ?_) (fun c9 => ?_)
      · skip
        exact W.vret hx hb hr (fun t ht hW => ⟨⟨g3, rfl, ⟨(fun c j h65 => by rw [hf4 c j h65]), (by rw [hq0]; rw [show v2_2.toInt.toNat = (g 3 0).toNat by omega])⟩, ok1 ht hG⟩, hS.F ht⟩) hS.2.2 dX8_endUnusedGifts_63
      · skip
        refine lv_aload_n hx hb dX8_endUnusedGifts_10 rfl (lv_at hl 1 rfl) ?_
        refine get_X8_4 hx hb hA hown hE hG t_h0 wd_1_161 dX8_endUnusedGifts_11 (fun b10 (t_b10 : ty Γ b10 12) => ?_)
        refine lv_iload_n hx hb dX8_endUnusedGifts_14 rfl (lv_at hl 0 rfl) ?_
        refine ald_12 hx hb hE hG t_b10 (by omega) dX8_endUnusedGifts_15 (fun j12 r11 h13 t_r11 h14 => ?_)
        obtain rfl : j12 = v2_2.toInt.toNat := by omega
        have hk15 : g3 35 0 = g 35 0 := hf4 35 0 (by decide)
        obtain ⟨b16, h17⟩ := Option.ne_none_iff_exists'.mp (h14 (by omega))
        have t_b16 := t_r11 b16 h17
        clear h14 t_r11
        subst h17
        refine lv_astore_n (lv' := [(3, .ref b16), (2, .int v2_2), (0, .ref h0), (1, .int p1)]) hx hb dX8_endUnusedGifts_16 rfl hl (by decide) rfl (fun ls hl => ?_)
        refine lv_aload_n hx hb dX8_endUnusedGifts_17 rfl (lv_at hl 0 rfl) ?_
        refine get_X2_6 hx hb hA hown hE hG t_b16 wd_3_34 dX8_endUnusedGifts_18 (fun x18 h19 => ?_)
        refine ty_if_eq (tgt := 32) hx hb dX8_endUnusedGifts_21 (by decide) (fun c21 => ?_) (fun c21 => ?_)
        · skip
          refine ty_iconst hx hb (1) dX8_endUnusedGifts_32 (by decide) (fun x22 h23 => ?_)
          refine lv_goto (tgt := 37) hx hb dX8_endUnusedGifts_33 (by decide) ?_
          refine lv_istore (lv' := [(4, .int x22), (3, .ref b16), (2, .int v2_2), (0, .ref h0), (1, .int p1)]) hx hb dX8_endUnusedGifts_37 hl (by decide) rfl (fun ls hl => ?_)
          refine lv_iload hx hb dX8_endUnusedGifts_39 (lv_at hl 0 rfl) ?_
          refine ty_if_eq (tgt := 57) hx hb dX8_endUnusedGifts_41 (by decide) (fun c24 => ?_) (fun c24 => ?_)
          · exfalso; omega
          · skip
            refine lv_aload_n hx hb dX8_endUnusedGifts_44 rfl (lv_at hl 1 rfl) ?_
            refine get_X2_3 hx hb hA hown hE hG t_b16 wd_3_26 dX8_endUnusedGifts_45 (fun x25 h26 => ?_)
            have hk28 : g3 62 v2_2.toInt.toNat = g 62 v2_2.toInt.toNat := hf4 62 v2_2.toInt.toNat (by decide)
            refine lv_iload_n hx hb dX8_endUnusedGifts_48 rfl (lv_at hl 4 rfl) ?_
            refine ty_icmp_gt (tgt := 57) hx hb dX8_endUnusedGifts_49 (by decide) (fun c29 => ?_) (fun c29 => ?_)
            · skip
              obtain ⟨x30, h31⟩ : ∃ y : Int32, y = v2_2 + Int32.ofInt (1) := ⟨_, rfl⟩
              try have h32 : x30.toInt = v2_2.toInt + (1) := ty_inc h31 (by decide) (by omega) (by omega)
              refine lv_iinc (v := x30) (lv' := [(2, .int x30), (4, .int x22), (3, .ref b16), (0, .ref h0), (1, .int p1)]) hx hb dX8_endUnusedGifts_57 hl (k := 2) rfl h31.symm (by decide) rfl (fun ls hl => ?_)
              refine lv_goto (tgt := 2) hx hb dX8_endUnusedGifts_60 (by decide) ?_
              exact ih_2 x30 g3 _ _ ls (by omega) (by omega) (fun c j h65 => by rw [hf4 c j h65]) (eu_n (by omega) (by omega) hq0) hG hS (lv_sub hl [0, 3, 4] rfl)
            · skip
              refine lv_aload_n hx hb dX8_endUnusedGifts_52 rfl (lv_at hl 1 rfl) ?_
              refine ty_iconst hx hb (5) dX8_endUnusedGifts_53 (by decide) (fun x33 h34 => ?_)
              refine put_X2_6 hx hb hA hown hE hG hS hU t_b16 wd_3_34 dX8_endUnusedGifts_54 (fun H locs hG hS => ?_)
              obtain ⟨x35, h36⟩ : ∃ y : Int32, y = v2_2 + Int32.ofInt (1) := ⟨_, rfl⟩
              try have h37 : x35.toInt = v2_2.toInt + (1) := ty_inc h36 (by decide) (by omega) (by omega)
              refine lv_iinc (v := x35) (lv' := [(2, .int x35), (4, .int x22), (3, .ref b16), (0, .ref h0), (1, .int p1)]) hx hb dX8_endUnusedGifts_57 hl (k := 2) rfl h36.symm (by decide) rfl (fun ls hl => ?_)
              refine lv_goto (tgt := 2) hx hb dX8_endUnusedGifts_60 (by decide) ?_
              have e38 : (gs g3 65 v2_2.toInt.toNat x33.toInt) 3 0 = g3 3 0 := by rw [gs_c _ _ _ _ (by decide)]
              exact ih_2 x35 (gs g3 65 v2_2.toInt.toNat x33.toInt) _ _ ls (by omega) (by omega) (fun c j h65 => by rw [gs_c _ _ _ _ h65, hf4 c j h65]) (by rw [pz_gs]; exact eu_s (by omega) (by omega) (by omega) (by omega) hq0) hG hS (lv_sub hl [0, 3, 4] rfl)
        · skip
          refine lv_aload_n hx hb dX8_endUnusedGifts_24 rfl (lv_at hl 0 rfl) ?_
          refine get_X2_6 hx hb hA hown hE hG t_b16 wd_3_34 dX8_endUnusedGifts_25 (fun x39 h40 => ?_)
          refine ty_iconst hx hb (2) dX8_endUnusedGifts_28 (by decide) (fun x42 h43 => ?_)
          refine ty_icmp_ne (tgt := 36) hx hb dX8_endUnusedGifts_29 (by decide) (fun c44 => ?_) (fun c44 => ?_)
          · skip
            refine ty_iconst hx hb (0) dX8_endUnusedGifts_36 (by decide) (fun x45 h46 => ?_)
            refine lv_istore (lv' := [(4, .int x45), (3, .ref b16), (2, .int v2_2), (0, .ref h0), (1, .int p1)]) hx hb dX8_endUnusedGifts_37 hl (by decide) rfl (fun ls hl => ?_)
            refine lv_iload hx hb dX8_endUnusedGifts_39 (lv_at hl 0 rfl) ?_
            refine ty_if_eq (tgt := 57) hx hb dX8_endUnusedGifts_41 (by decide) (fun c47 => ?_) (fun c47 => ?_)
            · skip
              obtain ⟨x48, h49⟩ : ∃ y : Int32, y = v2_2 + Int32.ofInt (1) := ⟨_, rfl⟩
              try have h50 : x48.toInt = v2_2.toInt + (1) := ty_inc h49 (by decide) (by omega) (by omega)
              refine lv_iinc (v := x48) (lv' := [(2, .int x48), (4, .int x45), (3, .ref b16), (0, .ref h0), (1, .int p1)]) hx hb dX8_endUnusedGifts_57 hl (k := 2) rfl h49.symm (by decide) rfl (fun ls hl => ?_)
              refine lv_goto (tgt := 2) hx hb dX8_endUnusedGifts_60 (by decide) ?_
              exact ih_2 x48 g3 _ _ ls (by omega) (by omega) (fun c j h65 => by rw [hf4 c j h65]) (eu_n (by omega) (by omega) hq0) hG hS (lv_sub hl [0, 3, 4] rfl)
            · exfalso; omega
          · skip
            refine ty_iconst hx hb (1) dX8_endUnusedGifts_32 (by decide) (fun x51 h52 => ?_)
            refine lv_goto (tgt := 37) hx hb dX8_endUnusedGifts_33 (by decide) ?_
            refine lv_istore (lv' := [(4, .int x51), (3, .ref b16), (2, .int v2_2), (0, .ref h0), (1, .int p1)]) hx hb dX8_endUnusedGifts_37 hl (by decide) rfl (fun ls hl => ?_)
            refine lv_iload hx hb dX8_endUnusedGifts_39 (lv_at hl 0 rfl) ?_
            refine ty_if_eq (tgt := 57) hx hb dX8_endUnusedGifts_41 (by decide) (fun c53 => ?_) (fun c53 => ?_)
            · exfalso; omega
            · skip
              refine lv_aload_n hx hb dX8_endUnusedGifts_44 rfl (lv_at hl 1 rfl) ?_
              refine get_X2_3 hx hb hA hown hE hG t_b16 wd_3_26 dX8_endUnusedGifts_45 (fun x54 h55 => ?_)
              have hk57 : g3 62 v2_2.toInt.toNat = g 62 v2_2.toInt.toNat := hf4 62 v2_2.toInt.toNat (by decide)
              refine lv_iload_n hx hb dX8_endUnusedGifts_48 rfl (lv_at hl 4 rfl) ?_
              refine ty_icmp_gt (tgt := 57) hx hb dX8_endUnusedGifts_49 (by decide) (fun c58 => ?_) (fun c58 => ?_)
              · skip
                obtain ⟨x59, h60⟩ : ∃ y : Int32, y = v2_2 + Int32.ofInt (1) := ⟨_, rfl⟩
                try have h61 : x59.toInt = v2_2.toInt + (1) := ty_inc h60 (by decide) (by omega) (by omega)
                refine lv_iinc (v := x59) (lv' := [(2, .int x59), (4, .int x51), (3, .ref b16), (0, .ref h0), (1, .int p1)]) hx hb dX8_endUnusedGifts_57 hl (k := 2) rfl h60.symm (by decide) rfl (fun ls hl => ?_)
                refine lv_goto (tgt := 2) hx hb dX8_endUnusedGifts_60 (by decide) ?_
                exact ih_2 x59 g3 _ _ ls (by omega) (by omega) (fun c j h65 => by rw [hf4 c j h65]) (eu_n (by omega) (by omega) hq0) hG hS (lv_sub hl [0, 3, 4] rfl)
              · skip
                refine lv_aload_n hx hb dX8_endUnusedGifts_52 rfl (lv_at hl 1 rfl) ?_
                refine ty_iconst hx hb (5) dX8_endUnusedGifts_53 (by decide) (fun x62 h63 => ?_)
                refine put_X2_6 hx hb hA hown hE hG hS hU t_b16 wd_3_34 dX8_endUnusedGifts_54 (fun H locs hG hS => ?_)
                obtain ⟨x64, h65⟩ : ∃ y : Int32, y = v2_2 + Int32.ofInt (1) := ⟨_, rfl⟩
                try have h66 : x64.toInt = v2_2.toInt + (1) := ty_inc h65 (by decide) (by omega) (by omega)
                refine lv_iinc (v := x64) (lv' := [(2, .int x64), (4, .int x51), (3, .ref b16), (0, .ref h0), (1, .int p1)]) hx hb dX8_endUnusedGifts_57 hl (k := 2) rfl h65.symm (by decide) rfl (fun ls hl => ?_)
                refine lv_goto (tgt := 2) hx hb dX8_endUnusedGifts_60 (by decide) ?_
                have e67 : (gs g3 65 v2_2.toInt.toNat x62.toInt) 3 0 = g3 3 0 := by rw [gs_c _ _ _ _ (by decide)]
                exact ih_2 x64 (gs g3 65 v2_2.toInt.toNat x62.toInt) _ _ ls (by omega) (by omega) (fun c j h65 => by rw [gs_c _ _ _ _ h65, hf4 c j h65]) (by rw [pz_gs]; exact eu_s (by omega) (by omega) (by omega) (by omega) hq0) hG hS (lv_sub hl [0, 3, 4] rfl)
  exact L_2 ((g 3 0 - x1.toInt) + 1).toNat x1 g _ _ ls (by omega) (by omega) (fun c j _ => rfl) (eu_0 (by omega)) hG hS (lv_sub hl [0, 1, 2] rfl)

set_option maxHeartbeats 4000000 in
set_option maxRecDepth 100000 in
/-- WeekBank.firstInLine:  -/
theorem k_X8_firstInLine (l : Launch) (dC : Nat → ClassId) (dI : Nat → Nat → Nat) (dA : Nat → ClassId) (sz : Nat) (X : va_W) (Γ : ty_G) (hU : Un Γ) (g : gh) (h0 : Nat) (t_h0 : ty Γ h0 1) (g2 : g 2 0 = g 34 0 ∧ 0 ≤ g 2 0 ∧ g 2 0 ≤ 10) : Met l yX8_firstInLine (.code yX8_firstInLine cX8_firstInLine 3 (Option.some (Jvm.ClassFile.FieldType.object "WeekBank$Owner")) :: AL) ({ frames := 0, cells := 0, slots := 0, locals := 0 }) (PCx dC dI dA sz X Γ g [.ref h0]) (va_Qq (fun (r : Option Nat) (u : gh) => ∃ z9 : Int, (r = none → z9 = -1) ∧ (∀ b, r = some b → Γ b = (3, z9.toNat) ∧ 0 ≤ z9) ∧ u = g ∧ (z9 = fi_f (g 55) (g 52) ((g 2) 0).toNat)) (okb dC dI dA sz X Γ) (ty_A sz)) 0 0 (ty_A sz) := by
  refine Met.ofW (cc := cX8_firstInLine) (maxL := 3) (ret := (Option.some (Jvm.ClassFile.FieldType.object "WeekBank$Owner"))) (by decide) rfl ?_
  intro p e s m args below meth c s₁ B hml hv
  obtain ⟨rfl, hG, hE⟩ := hv
  have hx := B.exec
  have hb := B.bytes
  have hr := B.returns
  have hts := atoms_spec B.pre
  have hA : ∀ w ∈ AL, w.before _ s = true := fun w h => hts w (List.mem_cons_of_mem _ h)
  have hown : s.vm.findClass RX8 = some m.cls := findClass_of_methodNamed B.named
  have hlocks := B.notSynchronized
  have hS : va_S (ty_A sz) s.heap s.heap [] := va_S.rf
  have hl := lv_entry ([.ref h0]) (n := 3) (Nat.le_of_ble_eq_true rfl)
  rw [lg_entry_eq]
  generalize (lg_sl ([.ref h0]) ++ List.replicate (3 - (lg_sl ([.ref h0])).length) Slot.unset).toArray = ls at hl ⊢
  have hl : lv_has ls 3 [(0, .ref h0)] := hl
  refine lv_null hx hb dX8_firstInLine_0 ?_
  refine lv_astore_nN (lv' := [(1, .null), (0, .ref h0)]) hx hb dX8_firstInLine_1 rfl hl (by decide) rfl (fun ls hl => ?_)
  refine ty_iconst hx hb (0) dX8_firstInLine_2 (by decide) (fun x1 h2 => ?_)
  refine lv_istore_n (lv' := [(2, .int x1), (1, .null), (0, .ref h0)]) hx hb dX8_firstInLine_3 rfl hl (by decide) rfl (fun ls hl => ?_)
  have L_4 : ∀ (n : Nat) (v2_4 : Int32) (v1_4 : Option Nat) (z_v1_4 : Int) (H : Heap) (locs : List Loc) (ls : Array Slot), (g 2 0 - v2_4.toInt : Int) < n → 0 ≤ v2_4.toInt ∧ v2_4.toInt ≤ g 2 0 → (v1_4 = none → z_v1_4 = -1) → (∀ b, v1_4 = some b → Γ b = (3, (z_v1_4).toNat) ∧ 0 ≤ z_v1_4) → (z_v1_4 = fi_f (g 55) (g 52) v2_4.toInt.toNat) → ty_ok (dC, dI) vwCl Γ (TP dA Γ g) sz X H → va_S (ty_A sz) s.heap H locs → lv_has ls 3 [(2, .int v2_4), (1, va_rf v1_4), (0, .ref h0)] → W p l e (headSpec (.code yX8_firstInLine cX8_firstInLine 3 (Option.some (Jvm.ClassFile.FieldType.object "WeekBank$Owner")) :: AL) ({ frames := 0, cells := 0, slots := 0, locals := 0 })).room s m ([.ref h0] : List Value).toArray below meth c H locs 0 0 (MQ below (va_Qq (fun (r : Option Nat) (u : gh) => ∃ z9 : Int, (r = none → z9 = -1) ∧ (∀ b, r = some b → Γ b = (3, z9.toNat) ∧ 0 ≤ z9) ∧ u = g ∧ (z9 = fi_f (g 55) (g 52) ((g 2) 0).toNat)) (okb dC dI dA sz X Γ) (ty_A sz)) ([.ref h0] : List Value).toArray s 0 0 (ty_A sz)) (F0 m 4 ls []) := by
    intro n
    induction n with
    | zero => intro v2_4 v1_4 z_v1_4 H locs ls hm hi0 n_v1_4 t_v1_4 hq0 hG hS hl; exfalso; omega
    | succ n ih_4 =>
      intro v2_4 v1_4 z_v1_4 H locs ls hm hi0 n_v1_4 t_v1_4 hq0 hG hS hl
      refine lv_iload_n hx hb dX8_firstInLine_4 rfl (lv_at hl 0 rfl) ?_
      refine lv_aload_n hx hb dX8_firstInLine_5 rfl (lv_at hl 2 rfl) ?_
      refine get_X8_3 hx hb hA hown hE hG t_h0 wd_1_160 dX8_firstInLine_6 (fun x4 h5 => ?_)
      refine ty_icmp_ge (tgt := 57) hx hb dX8_firstInLine_9 (by decide) (fun c7 => ?_) (fun c7 => ?_)
      · skip
        refine ty_aload_nq hx hb dX8_firstInLine_57 rfl (lv_at hl 1 rfl) ?_
        exact W.aret (v := va_rf (v1_4)) hx hb hr (Or.inl ⟨_, rfl⟩) (va_rf_or _) (fun t ht hW => ⟨⟨v1_4, g, rfl, ⟨z_v1_4, (And.intro n_v1_4 t_v1_4).1, (And.intro n_v1_4 t_v1_4).2, ⟨rfl, (by rw [hq0, show v2_4.toInt.toNat = (g 2 0).toNat by omega])⟩⟩, ok1 ht hG⟩, hS.F ht⟩) hS.2.2 dX8_firstInLine_58
      · skip
        refine lv_aload_n hx hb dX8_firstInLine_12 rfl (lv_at hl 2 rfl) ?_
        refine get_X8_2 hx hb hA hown hE hG t_h0 wd_1_159 dX8_firstInLine_13 (fun b8 (t_b8 : ty Γ b8 11) => ?_)
        refine lv_iload_n hx hb dX8_firstInLine_16 rfl (lv_at hl 0 rfl) ?_
        refine ald_11 hx hb hE hG t_b8 (by omega) dX8_firstInLine_17 (fun j10 r9 h11 t_r9 h12 => ?_)
        obtain rfl : j10 = v2_4.toInt.toNat := by omega
        obtain ⟨b13, h14⟩ := Option.ne_none_iff_exists'.mp (h12 (by omega))
        have t_b13 := t_r9 b13 h14
        clear h12 t_r9
        subst h14
        refine get_X3_6 hx hb hA hown hE hG t_b13 wd_2_21 dX8_firstInLine_18 (fun x15 h16 h17 => ?_)
        refine ty_if_eq (tgt := 51) hx hb dX8_firstInLine_21 (by decide) (fun c18 => ?_) (fun c18 => ?_)
        · skip
          obtain ⟨x19, h20⟩ : ∃ y : Int32, y = v2_4 + Int32.ofInt (1) := ⟨_, rfl⟩
          try have h21 : x19.toInt = v2_4.toInt + (1) := ty_inc h20 (by decide) (by omega) (by omega)
          refine lv_iinc (v := x19) (lv' := [(2, .int x19), (1, va_rf v1_4), (0, .ref h0)]) hx hb dX8_firstInLine_51 hl (k := 0) rfl h20.symm (by decide) (by cases v1_4 <;> rfl) (fun ls hl => ?_)
          refine lv_goto (tgt := 4) hx hb dX8_firstInLine_54 (by decide) ?_
          exact ih_4 x19 (v1_4) z_v1_4 _ _ ls (by omega) (by omega) (And.intro n_v1_4 t_v1_4).1 (And.intro n_v1_4 t_v1_4).2 (fi_no hq0 (by omega) (by omega)) hG hS (lv_sub hl [0, 1, 2] rfl)
        · skip
          refine ty_aload_nq hx hb dX8_firstInLine_24 rfl (lv_at hl 1 rfl) ?_
          refine ty_ifnull (tgt := 44) hx hb dX8_firstInLine_25 (by decide) (fun h23 => ?_) (fun b22 h23 => ?_)
          · skip
            have hz24 := n_v1_4 h23
            subst h23
            have hl : lv_has ls 3 [(2, .int v2_4), (1, .null), (0, .ref h0)] := hl
            refine lv_aload_n hx hb dX8_firstInLine_44 rfl (lv_at hl 2 rfl) ?_
            refine get_X8_2 hx hb hA hown hE hG t_h0 wd_1_159 dX8_firstInLine_45 (fun b25 (t_b25 : ty Γ b25 11) => ?_)
            refine lv_iload_n hx hb dX8_firstInLine_48 rfl (lv_at hl 0 rfl) ?_
            refine ald_11 hx hb hE hG t_b25 (by omega) dX8_firstInLine_49 (fun j27 r26 h28 t_r26 h29 => ?_)
            obtain rfl : j27 = v2_4.toInt.toNat := by omega
            obtain ⟨b30, h31⟩ := Option.ne_none_iff_exists'.mp (h29 (by omega))
            have t_b30 := t_r26 b30 h31
            clear h29 t_r26
            subst h31
            refine lv_astore_n (lv' := [(1, .ref b30), (2, .int v2_4), (0, .ref h0)]) hx hb dX8_firstInLine_50 rfl hl (by decide) rfl (fun ls hl => ?_)
            obtain ⟨x32, h33⟩ : ∃ y : Int32, y = v2_4 + Int32.ofInt (1) := ⟨_, rfl⟩
            try have h34 : x32.toInt = v2_4.toInt + (1) := ty_inc h33 (by decide) (by omega) (by omega)
            refine lv_iinc (v := x32) (lv' := [(2, .int x32), (1, .ref b30), (0, .ref h0)]) hx hb dX8_firstInLine_51 hl (k := 1) rfl h33.symm (by decide) rfl (fun ls hl => ?_)
            refine lv_goto (tgt := 4) hx hb dX8_firstInLine_54 (by decide) ?_
            exact ih_4 x32 (some b30) (v2_4.toInt) _ _ ls (by omega) (by omega) (rq_z t_b30 (by omega)).1 (rq_z t_b30 (by omega)).2 (fi_y hq0 (by omega) (by omega) (by omega)) hG hS (lv_sub hl [0, 1, 2] rfl)
          · skip
            obtain ⟨t_b22, p_b22⟩ := t_v1_4 b22 h23
            clear t_v1_4 n_v1_4
            subst h23
            have hl : lv_has ls 3 [(2, .int v2_4), (1, .ref b22), (0, .ref h0)] := hl
            refine lv_aload_n hx hb dX8_firstInLine_28 rfl (lv_at hl 2 rfl) ?_
            refine get_X8_2 hx hb hA hown hE hG t_h0 wd_1_159 dX8_firstInLine_29 (fun b35 (t_b35 : ty Γ b35 11) => ?_)
            refine lv_iload_n hx hb dX8_firstInLine_32 rfl (lv_at hl 0 rfl) ?_
            refine ald_11 hx hb hE hG t_b35 (by omega) dX8_firstInLine_33 (fun j37 r36 h38 t_r36 h39 => ?_)
            obtain rfl : j37 = v2_4.toInt.toNat := by omega
            obtain ⟨b40, h41⟩ := Option.ne_none_iff_exists'.mp (h39 (by omega))
            have t_b40 := t_r36 b40 h41
            clear h39 t_r36
            subst h41
            refine get_X3_3 hx hb hA hown hE hG t_b40 wd_2_14 dX8_firstInLine_34 (fun x42 h43 => ?_)
            refine lv_aload_n hx hb dX8_firstInLine_37 rfl (lv_at hl 1 rfl) ?_
            refine get_X3_3 hx hb hA hown hE hG t_b22 wd_2_14 dX8_firstInLine_38 (fun x45 h46 => ?_)
            refine ty_icmp_ge (tgt := 51) hx hb dX8_firstInLine_41 (by decide) (fun c48 => ?_) (fun c48 => ?_)
            · skip
              obtain ⟨x49, h50⟩ : ∃ y : Int32, y = v2_4 + Int32.ofInt (1) := ⟨_, rfl⟩
              try have h51 : x49.toInt = v2_4.toInt + (1) := ty_inc h50 (by decide) (by omega) (by omega)
              refine lv_iinc (v := x49) (lv' := [(2, .int x49), (1, .ref b22), (0, .ref h0)]) hx hb dX8_firstInLine_51 hl (k := 0) rfl h50.symm (by decide) rfl (fun ls hl => ?_)
              refine lv_goto (tgt := 4) hx hb dX8_firstInLine_54 (by decide) ?_
              exact ih_4 x49 (some b22) (z_v1_4) _ _ ls (by omega) (by omega) (rq_z t_b22 p_b22).1 (rq_z t_b22 p_b22).2 (fi_no hq0 (by omega) (by omega)) hG hS (lv_sub hl [0, 1, 2] rfl)
            · skip
              refine lv_aload_n hx hb dX8_firstInLine_44 rfl (lv_at hl 2 rfl) ?_
              refine get_X8_2 hx hb hA hown hE hG t_h0 wd_1_159 dX8_firstInLine_45 (fun b52 (t_b52 : ty Γ b52 11) => ?_)
              refine lv_iload_n hx hb dX8_firstInLine_48 rfl (lv_at hl 0 rfl) ?_
              refine ald_11 hx hb hE hG t_b52 (by omega) dX8_firstInLine_49 (fun j54 r53 h55 t_r53 h56 => ?_)
              obtain rfl : j54 = v2_4.toInt.toNat := by omega
              obtain ⟨b57, h58⟩ := Option.ne_none_iff_exists'.mp (h56 (by omega))
              have t_b57 := t_r53 b57 h58
              clear h56 t_r53
              subst h58
              refine lv_astore_n (lv' := [(1, .ref b57), (2, .int v2_4), (0, .ref h0)]) hx hb dX8_firstInLine_50 rfl hl (by decide) rfl (fun ls hl => ?_)
              obtain ⟨x59, h60⟩ : ∃ y : Int32, y = v2_4 + Int32.ofInt (1) := ⟨_, rfl⟩
              try have h61 : x59.toInt = v2_4.toInt + (1) := ty_inc h60 (by decide) (by omega) (by omega)
              refine lv_iinc (v := x59) (lv' := [(2, .int x59), (1, .ref b57), (0, .ref h0)]) hx hb dX8_firstInLine_51 hl (k := 1) rfl h60.symm (by decide) rfl (fun ls hl => ?_)
              refine lv_goto (tgt := 4) hx hb dX8_firstInLine_54 (by decide) ?_
              exact ih_4 x59 (some b57) (v2_4.toInt) _ _ ls (by omega) (by omega) (rq_z t_b57 (by omega)).1 (rq_z t_b57 (by omega)).2 (fi_y hq0 (by omega) (by omega) (by omega)) hG hS (lv_sub hl [0, 1, 2] rfl)
  exact L_4 ((g 2 0 - x1.toInt) + 1).toNat x1 (none) (-1) _ _ ls (by omega) (by omega) (fun _ => rfl) (fun _ h => by cases h) (by rw [show x1.toInt.toNat = 0 by omega]; rfl) hG hS (lv_sub hl [0, 1, 2] rfl)

set_option maxHeartbeats 4000000 in
set_option maxRecDepth 100000 in
/-- WeekBank.bestBankedFor:  -/
theorem k_X8_bestBankedFor (l : Launch) (dC : Nat → ClassId) (dI : Nat → Nat → Nat) (dA : Nat → ClassId) (sz : Nat) (X : va_W) (Γ : ty_G) (hU : Un Γ) (g : gh) (h0 : Nat) (t_h0 : ty Γ h0 1) (p1 j : Nat) (t_p1 : Γ p1 = (3, j)) (g3 : g 3 0 = g 35 0 ∧ 0 ≤ g 3 0 ∧ g 3 0 ≤ 200) : Met l yX8_bestBankedFor (.code yX8_bestBankedFor cX8_bestBankedFor 6 (Option.some (Jvm.ClassFile.FieldType.object "WeekBank$Gift")) :: AL) ({ frames := 1, cells := 0, slots := 0, locals := 22 }) (PCx dC dI dA sz X Γ g [.ref h0, .ref p1]) (va_Qq (fun (r : Option Nat) (u : gh) => ∃ z9 : Int, (r = none → z9 = -1) ∧ (∀ b, r = some b → Γ b = (4, z9.toNat) ∧ 0 ≤ z9) ∧ u = g ∧ (z9 = bb_f (g 65) (g 64) (g 61) (g 62) (g 41) (g 42) ((g 51) j) ((g 56) j) ((g 3) 0).toNat)) (okb dC dI dA sz X Γ) (ty_A sz)) 0 0 (ty_A sz) := by
  refine Met.ofW (cc := cX8_bestBankedFor) (maxL := 6) (ret := (Option.some (Jvm.ClassFile.FieldType.object "WeekBank$Gift"))) (by decide) rfl ?_
  intro p e s m args below meth c s₁ B hml hv
  obtain ⟨rfl, hG, hE⟩ := hv
  have hx := B.exec
  have hb := B.bytes
  have hr := B.returns
  have hts := atoms_spec B.pre
  have hA : ∀ w ∈ AL, w.before _ s = true := fun w h => hts w (List.mem_cons_of_mem _ h)
  have hown : s.vm.findClass RX8 = some m.cls := findClass_of_methodNamed B.named
  have hlocks := B.notSynchronized
  have hS : va_S (ty_A sz) s.heap s.heap [] := va_S.rf
  have hl := lv_entry ([.ref h0, .ref p1]) (n := 6) (Nat.le_of_ble_eq_true rfl)
  rw [lg_entry_eq]
  generalize (lg_sl ([.ref h0, .ref p1]) ++ List.replicate (6 - (lg_sl ([.ref h0, .ref p1])).length) Slot.unset).toArray = ls at hl ⊢
  have hl : lv_has ls 6 [(0, .ref h0), (1, .ref p1)] := hl
  refine lv_null hx hb dX8_bestBankedFor_0 ?_
  refine lv_astore_nN (lv' := [(2, .null), (0, .ref h0), (1, .ref p1)]) hx hb dX8_bestBankedFor_1 rfl hl (by decide) rfl (fun ls hl => ?_)
  refine ty_iconst hx hb (0) dX8_bestBankedFor_2 (by decide) (fun x1 h2 => ?_)
  refine lv_istore_n (lv' := [(3, .int x1), (2, .null), (0, .ref h0), (1, .ref p1)]) hx hb dX8_bestBankedFor_3 rfl hl (by decide) rfl (fun ls hl => ?_)
  have L_4 : ∀ (n : Nat) (v3_4 : Int32) (v2_4 : Option Nat) (z_v2_4 : Int) (H : Heap) (locs : List Loc) (ls : Array Slot), (g 3 0 - v3_4.toInt : Int) < n → 0 ≤ v3_4.toInt ∧ v3_4.toInt ≤ g 3 0 → (v2_4 = none → z_v2_4 = -1) → (∀ b, v2_4 = some b → Γ b = (4, (z_v2_4).toNat) ∧ 0 ≤ z_v2_4) → (z_v2_4 = bb_f (g 65) (g 64) (g 61) (g 62) (g 41) (g 42) (g 51 j) (g 56 j) v3_4.toInt.toNat) → ty_ok (dC, dI) vwCl Γ (TP dA Γ g) sz X H → va_S (ty_A sz) s.heap H locs → lv_has ls 6 [(3, .int v3_4), (2, va_rf v2_4), (0, .ref h0), (1, .ref p1)] → W p l e (headSpec (.code yX8_bestBankedFor cX8_bestBankedFor 6 (Option.some (Jvm.ClassFile.FieldType.object "WeekBank$Gift")) :: AL) ({ frames := 1, cells := 0, slots := 0, locals := 22 })).room s m ([.ref h0, .ref p1] : List Value).toArray below meth c H locs 0 0 (MQ below (va_Qq (fun (r : Option Nat) (u : gh) => ∃ z9 : Int, (r = none → z9 = -1) ∧ (∀ b, r = some b → Γ b = (4, z9.toNat) ∧ 0 ≤ z9) ∧ u = g ∧ (z9 = bb_f (g 65) (g 64) (g 61) (g 62) (g 41) (g 42) ((g 51) j) ((g 56) j) ((g 3) 0).toNat)) (okb dC dI dA sz X Γ) (ty_A sz)) ([.ref h0, .ref p1] : List Value).toArray s 0 0 (ty_A sz)) (F0 m 4 ls []) := by
    intro n
    induction n with
    | zero => intro v3_4 v2_4 z_v2_4 H locs ls hm hi0 n_v2_4 t_v2_4 hq0 hG hS hl; exfalso; omega
    | succ n ih_4 =>
      intro v3_4 v2_4 z_v2_4 H locs ls hm hi0 n_v2_4 t_v2_4 hq0 hG hS hl
      refine lv_iload_n hx hb dX8_bestBankedFor_4 rfl (lv_at hl 0 rfl) ?_
      refine lv_aload_n hx hb dX8_bestBankedFor_5 rfl (lv_at hl 2 rfl) ?_
      refine get_X8_5 hx hb hA hown hE hG t_h0 wd_1_162 dX8_bestBankedFor_6 (fun x4 h5 => ?_)
      refine ty_icmp_ge (tgt := 90) hx hb dX8_bestBankedFor_9 (by decide) (fun c7 => ?_) (fun c7 => ?_)
      · skip
        refine ty_aload_nq hx hb dX8_bestBankedFor_90 rfl (lv_at hl 1 rfl) ?_
        exact W.aret (v := va_rf (v2_4)) hx hb hr (Or.inl ⟨_, rfl⟩) (va_rf_or _) (fun t ht hW => ⟨⟨v2_4, g, rfl, ⟨z_v2_4, (And.intro n_v2_4 t_v2_4).1, (And.intro n_v2_4 t_v2_4).2, ⟨rfl, (by rw [hq0, show v3_4.toInt.toNat = (g 3 0).toNat by omega])⟩⟩, ok1 ht hG⟩, hS.F ht⟩) hS.2.2 dX8_bestBankedFor_91
      · skip
        refine lv_aload_n hx hb dX8_bestBankedFor_12 rfl (lv_at hl 2 rfl) ?_
        refine get_X8_4 hx hb hA hown hE hG t_h0 wd_1_161 dX8_bestBankedFor_13 (fun b8 (t_b8 : ty Γ b8 12) => ?_)
        refine lv_iload_n hx hb dX8_bestBankedFor_16 rfl (lv_at hl 0 rfl) ?_
        refine ald_12 hx hb hE hG t_b8 (by omega) dX8_bestBankedFor_17 (fun j10 r9 h11 t_r9 h12 => ?_)
        obtain rfl : j10 = v3_4.toInt.toNat := by omega
        obtain ⟨b13, h14⟩ := Option.ne_none_iff_exists'.mp (h12 (by omega))
        have t_b13 := t_r9 b13 h14
        clear h12 t_r9
        subst h14
        refine lv_astore (lv' := [(4, .ref b13), (3, .int v3_4), (2, va_rf v2_4), (0, .ref h0), (1, .ref p1)]) hx hb dX8_bestBankedFor_18 hl (by decide) rfl (fun ls hl => ?_)
        refine lv_aload hx hb dX8_bestBankedFor_20 (lv_at hl 0 rfl) ?_
        refine get_X2_6 hx hb hA hown hE hG t_b13 wd_3_34 dX8_bestBankedFor_22 (fun x15 h16 => ?_)
        refine ty_iconst hx hb (2) dX8_bestBankedFor_25 (by decide) (fun x18 h19 => ?_)
        refine ty_icmp_ne (tgt := 45) hx hb dX8_bestBankedFor_26 (by decide) (fun c20 => ?_) (fun c20 => ?_)
        · skip
          refine ty_iconst hx hb (0) dX8_bestBankedFor_45 (by decide) (fun x21 h22 => ?_)
          refine lv_istore (lv' := [(5, .int x21), (4, .ref b13), (3, .int v3_4), (2, va_rf v2_4), (0, .ref h0), (1, .ref p1)]) hx hb dX8_bestBankedFor_46 hl (by decide) rfl (fun ls hl => ?_)
          refine lv_iload hx hb dX8_bestBankedFor_48 (lv_at hl 0 rfl) ?_
          refine ty_if_eq (tgt := 84) hx hb dX8_bestBankedFor_50 (by decide) (fun c23 => ?_) (fun c23 => ?_)
          · skip
            obtain ⟨x24, h25⟩ : ∃ y : Int32, y = v3_4 + Int32.ofInt (1) := ⟨_, rfl⟩
            try have h26 : x24.toInt = v3_4.toInt + (1) := ty_inc h25 (by decide) (by omega) (by omega)
            refine lv_iinc (v := x24) (lv' := [(3, .int x24), (5, .int x21), (4, .ref b13), (2, va_rf v2_4), (0, .ref h0), (1, .ref p1)]) hx hb dX8_bestBankedFor_84 hl (k := 2) rfl h25.symm (by decide) (by cases v2_4 <;> rfl) (fun ls hl => ?_)
            refine lv_goto (tgt := 4) hx hb dX8_bestBankedFor_87 (by decide) ?_
            exact ih_4 x24 (v2_4) z_v2_4 _ _ ls (by omega) (by omega) (And.intro n_v2_4 t_v2_4).1 (And.intro n_v2_4 t_v2_4).2 (bb_no hq0 (by omega) (by omega)) hG hS (lv_sub hl [0, 3, 4, 5] rfl)
          · exfalso; omega
        · skip
          refine lv_aload hx hb dX8_bestBankedFor_29 (lv_at hl 0 rfl) ?_
          refine get_X2_5 hx hb hA hown hE hG t_b13 wd_3_30 dX8_bestBankedFor_31 (fun x27 h28 => ?_)
          refine lv_aload_n hx hb dX8_bestBankedFor_34 rfl (lv_at hl 4 rfl) ?_
          refine get_X3_2 hx hb hA hown hE hG t_p1 wd_2_12 dX8_bestBankedFor_35 (fun x30 h31 => ?_)
          refine ty_icmp_gt (tgt := 45) hx hb dX8_bestBankedFor_38 (by decide) (fun c33 => ?_) (fun c33 => ?_)
          · skip
            refine ty_iconst hx hb (0) dX8_bestBankedFor_45 (by decide) (fun x34 h35 => ?_)
            refine lv_istore (lv' := [(5, .int x34), (4, .ref b13), (3, .int v3_4), (2, va_rf v2_4), (0, .ref h0), (1, .ref p1)]) hx hb dX8_bestBankedFor_46 hl (by decide) rfl (fun ls hl => ?_)
            refine lv_iload hx hb dX8_bestBankedFor_48 (lv_at hl 0 rfl) ?_
            refine ty_if_eq (tgt := 84) hx hb dX8_bestBankedFor_50 (by decide) (fun c36 => ?_) (fun c36 => ?_)
            · skip
              obtain ⟨x37, h38⟩ : ∃ y : Int32, y = v3_4 + Int32.ofInt (1) := ⟨_, rfl⟩
              try have h39 : x37.toInt = v3_4.toInt + (1) := ty_inc h38 (by decide) (by omega) (by omega)
              refine lv_iinc (v := x37) (lv' := [(3, .int x37), (5, .int x34), (4, .ref b13), (2, va_rf v2_4), (0, .ref h0), (1, .ref p1)]) hx hb dX8_bestBankedFor_84 hl (k := 2) rfl h38.symm (by decide) (by cases v2_4 <;> rfl) (fun ls hl => ?_)
              refine lv_goto (tgt := 4) hx hb dX8_bestBankedFor_87 (by decide) ?_
              exact ih_4 x37 (v2_4) z_v2_4 _ _ ls (by omega) (by omega) (And.intro n_v2_4 t_v2_4).1 (And.intro n_v2_4 t_v2_4).2 (bb_no hq0 (by omega) (by omega)) hG hS (lv_sub hl [0, 3, 4, 5] rfl)
            · exfalso; omega
          · skip
            refine ty_iconst hx hb (1) dX8_bestBankedFor_41 (by decide) (fun x40 h41 => ?_)
            refine lv_goto (tgt := 46) hx hb dX8_bestBankedFor_42 (by decide) ?_
            refine lv_istore (lv' := [(5, .int x40), (4, .ref b13), (3, .int v3_4), (2, va_rf v2_4), (0, .ref h0), (1, .ref p1)]) hx hb dX8_bestBankedFor_46 hl (by decide) rfl (fun ls hl => ?_)
            refine lv_iload hx hb dX8_bestBankedFor_48 (lv_at hl 0 rfl) ?_
            refine ty_if_eq (tgt := 84) hx hb dX8_bestBankedFor_50 (by decide) (fun c42 => ?_) (fun c42 => ?_)
            · exfalso; omega
            · skip
              refine lv_aload hx hb dX8_bestBankedFor_53 (lv_at hl 1 rfl) ?_
              refine lv_aload_n hx hb dX8_bestBankedFor_55 rfl (lv_at hl 5 rfl) ?_
              refine get_X3_7 hx hb hA hown hE hG t_p1 wd_2_23 dX8_bestBankedFor_56 (fun r43 n_r43 t_r43 => ?_)
              refine cI (va_runV (C := RX2) (As := [va_rf r43]) (rest := []) ⟨hx, hb, hml, hown, hA⟩ (k_X2_meets l dC dI dA sz X Γ hU g b13 v3_4.toInt.toNat t_b13 (r43) ((g 56 j)) (And.intro n_r43 t_r43).1 (And.intro n_r43 t_r43).2   ) ⟨callB_of 1 hA (al_A wd_3_130) rfl rfl rfl (hA _ wd_1_15) (hA _ wd_3_207) (by decide +kernel) ⟨Nat.le_of_ble_eq_true rfl, Nat.le_of_ble_eq_true rfl⟩, hA _ wd_3_128, hA _ wd_3_129⟩ ⟨bl, recv_X2 hE hG (by rw [t_b13]), fun U hU9 hW9 => ⟨rfl, by rw [hU9]; exact hG, hE.go hS hU9 hW9⟩⟩ rfl rfl hl.1 rfl (lv_room (Nat.le_of_ble_eq_true rfl)) dX8_bestBankedFor_59 ⟨Nat.zero_le _, Nat.zero_le _⟩) hS (fun x46 u44 H locs w45 hG hS => ?_)
              obtain ⟨eu47, w45⟩ := w45
              rw [eu47] at hG
              refine ty_if_eq (tgt := 84) hx hb dX8_bestBankedFor_62 (by decide) (fun c48 => ?_) (fun c48 => ?_)
              · skip
                obtain ⟨x49, h50⟩ : ∃ y : Int32, y = v3_4 + Int32.ofInt (1) := ⟨_, rfl⟩
                try have h51 : x49.toInt = v3_4.toInt + (1) := ty_inc h50 (by decide) (by omega) (by omega)
                refine lv_iinc (v := x49) (lv' := [(3, .int x49), (5, .int x40), (4, .ref b13), (2, va_rf v2_4), (0, .ref h0), (1, .ref p1)]) hx hb dX8_bestBankedFor_84 hl (k := 2) rfl h50.symm (by decide) (by cases v2_4 <;> rfl) (fun ls hl => ?_)
                refine lv_goto (tgt := 4) hx hb dX8_bestBankedFor_87 (by decide) ?_
                exact ih_4 x49 (v2_4) z_v2_4 _ _ ls (by omega) (by omega) (And.intro n_v2_4 t_v2_4).1 (And.intro n_v2_4 t_v2_4).2 (bb_no hq0 (by omega) (by omega)) hG hS (lv_sub hl [0, 3, 4, 5] rfl)
              · skip
                refine ty_aload_nq hx hb dX8_bestBankedFor_65 rfl (lv_at hl 3 rfl) ?_
                refine ty_ifnull (tgt := 81) hx hb dX8_bestBankedFor_66 (by decide) (fun h53 => ?_) (fun b52 h53 => ?_)
                · skip
                  have hz54 := n_v2_4 h53
                  subst h53
                  have hl : lv_has ls 6 [(5, .int x40), (4, .ref b13), (3, .int v3_4), (2, .null), (0, .ref h0), (1, .ref p1)] := hl
                  refine lv_aload hx hb dX8_bestBankedFor_81 (lv_at hl 1 rfl) ?_
                  refine lv_astore_n (lv' := [(2, .ref b13), (5, .int x40), (4, .ref b13), (3, .int v3_4), (0, .ref h0), (1, .ref p1)]) hx hb dX8_bestBankedFor_83 rfl hl (by decide) rfl (fun ls hl => ?_)
                  obtain ⟨x55, h56⟩ : ∃ y : Int32, y = v3_4 + Int32.ofInt (1) := ⟨_, rfl⟩
                  try have h57 : x55.toInt = v3_4.toInt + (1) := ty_inc h56 (by decide) (by omega) (by omega)
                  refine lv_iinc (v := x55) (lv' := [(3, .int x55), (2, .ref b13), (5, .int x40), (4, .ref b13), (0, .ref h0), (1, .ref p1)]) hx hb dX8_bestBankedFor_84 hl (k := 3) rfl h56.symm (by decide) rfl (fun ls hl => ?_)
                  refine lv_goto (tgt := 4) hx hb dX8_bestBankedFor_87 (by decide) ?_
                  exact ih_4 x55 (some b13) (v3_4.toInt) _ _ ls (by omega) (by omega) (rq_z t_b13 (by omega)).1 (rq_z t_b13 (by omega)).2 (bb_y hq0 (by omega) (by omega) (by omega)) hG hS (lv_sub hl [0, 1, 4, 5] rfl)
                · skip
                  obtain ⟨t_b52, p_b52⟩ := t_v2_4 b52 h53
                  clear t_v2_4 n_v2_4
                  subst h53
                  have hl : lv_has ls 6 [(5, .int x40), (4, .ref b13), (3, .int v3_4), (2, .ref b52), (0, .ref h0), (1, .ref p1)] := hl
                  refine lv_aload hx hb dX8_bestBankedFor_69 (lv_at hl 1 rfl) ?_
                  refine get_X2_5 hx hb hA hown hE hG t_b13 wd_3_30 dX8_bestBankedFor_71 (fun x58 h59 => ?_)
                  refine lv_aload_n hx hb dX8_bestBankedFor_74 rfl (lv_at hl 3 rfl) ?_
                  refine get_X2_5 hx hb hA hown hE hG t_b52 wd_3_30 dX8_bestBankedFor_75 (fun x61 h62 => ?_)
                  refine ty_icmp_le (tgt := 84) hx hb dX8_bestBankedFor_78 (by decide) (fun c64 => ?_) (fun c64 => ?_)
                  · skip
                    obtain ⟨x65, h66⟩ : ∃ y : Int32, y = v3_4 + Int32.ofInt (1) := ⟨_, rfl⟩
                    try have h67 : x65.toInt = v3_4.toInt + (1) := ty_inc h66 (by decide) (by omega) (by omega)
                    refine lv_iinc (v := x65) (lv' := [(3, .int x65), (5, .int x40), (4, .ref b13), (2, .ref b52), (0, .ref h0), (1, .ref p1)]) hx hb dX8_bestBankedFor_84 hl (k := 2) rfl h66.symm (by decide) rfl (fun ls hl => ?_)
                    refine lv_goto (tgt := 4) hx hb dX8_bestBankedFor_87 (by decide) ?_
                    exact ih_4 x65 (some b52) (z_v2_4) _ _ ls (by omega) (by omega) (rq_z t_b52 p_b52).1 (rq_z t_b52 p_b52).2 (bb_no hq0 (by omega) (by omega)) hG hS (lv_sub hl [0, 3, 4, 5] rfl)
                  · skip
                    refine lv_aload hx hb dX8_bestBankedFor_81 (lv_at hl 1 rfl) ?_
                    refine lv_astore_n (lv' := [(2, .ref b13), (5, .int x40), (4, .ref b13), (3, .int v3_4), (0, .ref h0), (1, .ref p1)]) hx hb dX8_bestBankedFor_83 rfl hl (by decide) rfl (fun ls hl => ?_)
                    obtain ⟨x68, h69⟩ : ∃ y : Int32, y = v3_4 + Int32.ofInt (1) := ⟨_, rfl⟩
                    try have h70 : x68.toInt = v3_4.toInt + (1) := ty_inc h69 (by decide) (by omega) (by omega)
                    refine lv_iinc (v := x68) (lv' := [(3, .int x68), (2, .ref b13), (5, .int x40), (4, .ref b13), (0, .ref h0), (1, .ref p1)]) hx hb dX8_bestBankedFor_84 hl (k := 3) rfl h69.symm (by decide) rfl (fun ls hl => ?_)
                    refine lv_goto (tgt := 4) hx hb dX8_bestBankedFor_87 (by decide) ?_
                    exact ih_4 x68 (some b13) (v3_4.toInt) _ _ ls (by omega) (by omega) (rq_z t_b13 (by omega)).1 (rq_z t_b13 (by omega)).2 (bb_y hq0 (by omega) (by omega) (by omega)) hG hS (lv_sub hl [0, 1, 4, 5] rfl)
  exact L_4 ((g 3 0 - x1.toInt) + 1).toNat x1 (none) (-1) _ _ ls (by omega) (by omega) (fun _ => rfl) (fun _ h => by cases h) (by rw [show x1.toInt.toNat = 0 by omega]; rfl) hG hS (lv_sub hl [0, 1, 2, 3] rfl)

set_option maxHeartbeats 4000000 in
set_option maxRecDepth 100000 in
/-- WeekBank.passAllWeeks:  -/
theorem k_X8_passAllWeeks (l : Launch) (dC : Nat → ClassId) (dI : Nat → Nat → Nat) (dA : Nat → ClassId) (sz : Nat) (X : va_W) (Γ : ty_G) (hU : Un Γ) (g : gh) (h0 : Nat) (t_h0 : ty Γ h0 1) (p1 j : Nat) (t_p1 : Γ p1 = (3, j)) (q2 : Option Nat) (z_q2 : Int) (n_q2 : q2 = none → z_q2 = -1) (t_q2 : ∀ b, q2 = some b → Γ b = (3, z_q2.toNat) ∧ 0 ≤ z_q2) (g1 : g 1 0 = g 33 0 ∧ 0 ≤ g 1 0 ∧ g 1 0 ≤ 6) (hOW : OW (g 43) (g 53)) (hz2 : -1 ≤ z_q2) : Met l yX8_passAllWeeks (.code yX8_passAllWeeks cX8_passAllWeeks 5 (Option.none : Option Jvm.ClassFile.FieldType) :: AL) ({ frames := 2, cells := 0, slots := 0, locals := 43 }) (PCx dC dI dA sz X Γ g [.ref h0, .ref p1, va_rf q2]) (va_Qv (fun (u : gh) => (∀ c j : Nat, c ≠ 43 → c ≠ 53 → u c j = g c j) ∧ (u 43 = pr_f (g 43) ((j : Nat) : Int) z_q2 (53 * (g 1 0).toNat)) ∧ (OW (u 43) (u 53))) (okb dC dI dA sz X Γ) (ty_A sz)) 0 0 (ty_A sz) := by
  refine Met.ofW (cc := cX8_passAllWeeks) (maxL := 5) (ret := (Option.none : Option Jvm.ClassFile.FieldType)) (by decide) rfl ?_
  intro p e s m args below meth c s₁ B hml hv
  obtain ⟨rfl, hG, hE⟩ := hv
  have hx := B.exec
  have hb := B.bytes
  have hr := B.returns
  have hts := atoms_spec B.pre
  have hA : ∀ w ∈ AL, w.before _ s = true := fun w h => hts w (List.mem_cons_of_mem _ h)
  have hown : s.vm.findClass RX8 = some m.cls := findClass_of_methodNamed B.named
  have hlocks := B.notSynchronized
  have hS : va_S (ty_A sz) s.heap s.heap [] := va_S.rf
  have hl := lv_entry ([.ref h0, .ref p1, va_rf q2]) (n := 5) (by cases q2 <;> exact Nat.le_of_ble_eq_true rfl)
  rw [lg_entry_eq]
  generalize (lg_sl ([.ref h0, .ref p1, va_rf q2]) ++ List.replicate (5 - (lg_sl ([.ref h0, .ref p1, va_rf q2])).length) Slot.unset).toArray = ls at hl ⊢
  have hl : lv_has ls 5 [(0, .ref h0), (1, .ref p1), (2, va_rf q2)] := by cases q2 <;> exact hl
  refine ty_iconst hx hb (0) dX8_passAllWeeks_0 (by decide) (fun x1 h2 => ?_)
  refine lv_istore_n (lv' := [(3, .int x1), (0, .ref h0), (1, .ref p1), (2, va_rf q2)]) hx hb dX8_passAllWeeks_1 rfl hl (by decide) (by cases q2 <;> rfl) (fun ls hl => ?_)
  have L_2 : ∀ (n : Nat) (v3_2 : Int32) (g3 : gh) (H : Heap) (locs : List Loc) (ls : Array Slot), (g3 1 0 - v3_2.toInt : Int) < n → 0 ≤ v3_2.toInt ∧ v3_2.toInt ≤ g3 1 0 → (∀ c j : Nat, c ≠ 43 → c ≠ 53 → g3 c j = g c j) → (g3 43 = pr_f (g 43) ((j : Nat) : Int) z_q2 (53 * v3_2.toInt.toNat)) → (OW (g3 43) (g3 53)) → ty_ok (dC, dI) vwCl Γ (TP dA Γ g3) sz X H → va_S (ty_A sz) s.heap H locs → lv_has ls 5 [(3, .int v3_2), (0, .ref h0), (1, .ref p1), (2, va_rf q2)] → W p l e (headSpec (.code yX8_passAllWeeks cX8_passAllWeeks 5 (Option.none : Option Jvm.ClassFile.FieldType) :: AL) ({ frames := 2, cells := 0, slots := 0, locals := 43 })).room s m ([.ref h0, .ref p1, va_rf q2] : List Value).toArray below meth c H locs 0 0 (MQ below (va_Qv (fun (u : gh) => (∀ c j : Nat, c ≠ 43 → c ≠ 53 → u c j = g c j) ∧ (u 43 = pr_f (g 43) ((j : Nat) : Int) z_q2 (53 * (g 1 0).toNat)) ∧ (OW (u 43) (u 53))) (okb dC dI dA sz X Γ) (ty_A sz)) ([.ref h0, .ref p1, va_rf q2] : List Value).toArray s 0 0 (ty_A sz)) (F0 m 2 ls []) := by
    intro n
    induction n with
    | zero => intro v3_2 g3 H locs ls hm hi0 hf4 hq0 hq1 hG hS hl; exfalso; omega
    | succ n ih_2 =>
      intro v3_2 g3 H locs ls hm hi0 hf4 hq0 hq1 hG hS hl
      have hk5 : g3 1 0 = g 1 0 := hf4 1 0 (by decide) (by decide)
      refine lv_iload_n hx hb dX8_passAllWeeks_2 rfl (lv_at hl 0 rfl) ?_
      refine lv_aload_n hx hb dX8_passAllWeeks_3 rfl (lv_at hl 1 rfl) ?_
      refine get_X8_1 hx hb hA hown hE hG t_h0 wd_1_158 dX8_passAllWeeks_4 (fun x6 h7 => ?_)
      refine ty_icmp_ge (tgt := 60) hx hb dX8_passAllWeeks_7 (by decide) (fun c9 => ?_) (fun c9 => ?_)
      · skip
        exact W.vret hx hb hr (fun t ht hW => ⟨⟨g3, rfl, ⟨(fun c j h43 h53 => by rw [hf4 c j h43 h53]), (by rw [hq0, show v3_2.toInt.toNat = (g 1 0).toNat by omega]), (hq1)⟩, ok1 ht hG⟩, hS.F ht⟩) hS.2.2 dX8_passAllWeeks_60
      · skip
        refine ty_iconst hx hb (0) dX8_passAllWeeks_10 (by decide) (fun x10 h11 => ?_)
        refine lv_istore (lv' := [(4, .int x10), (3, .int v3_2), (0, .ref h0), (1, .ref p1), (2, va_rf q2)]) hx hb dX8_passAllWeeks_11 hl (by decide) rfl (fun ls hl => ?_)
        have L_13 : ∀ (n : Nat) (v4_13 : Int32) (g12 : gh) (H : Heap) (locs : List Loc) (ls : Array Slot), (53 - v4_13.toInt : Int) < n → 0 ≤ v4_13.toInt ∧ v4_13.toInt ≤ 53 → (∀ c j : Nat, c ≠ 43 → c ≠ 53 → g12 c j = g3 c j) → (g12 43 = pr_f (g 43) ((j : Nat) : Int) z_q2 (53 * v3_2.toInt.toNat + v4_13.toInt.toNat)) → (OW (g12 43) (g12 53)) → ty_ok (dC, dI) vwCl Γ (TP dA Γ g12) sz X H → va_S (ty_A sz) s.heap H locs → lv_has ls 5 [(4, .int v4_13), (3, .int v3_2), (0, .ref h0), (1, .ref p1), (2, va_rf q2)] → W p l e (headSpec (.code yX8_passAllWeeks cX8_passAllWeeks 5 (Option.none : Option Jvm.ClassFile.FieldType) :: AL) ({ frames := 2, cells := 0, slots := 0, locals := 43 })).room s m ([.ref h0, .ref p1, va_rf q2] : List Value).toArray below meth c H locs 0 0 (MQ below (va_Qv (fun (u : gh) => (∀ c j : Nat, c ≠ 43 → c ≠ 53 → u c j = g c j) ∧ (u 43 = pr_f (g 43) ((j : Nat) : Int) z_q2 (53 * (g 1 0).toNat)) ∧ (OW (u 43) (u 53))) (okb dC dI dA sz X Γ) (ty_A sz)) ([.ref h0, .ref p1, va_rf q2] : List Value).toArray s 0 0 (ty_A sz)) (F0 m 13 ls []) := by
          intro n
          induction n with
          | zero => intro v4_13 g12 H locs ls hm hi0 hf13 hq0 hq1 hG hS hl; exfalso; omega
          | succ n ih_13 =>
            intro v4_13 g12 H locs ls hm hi0 hf13 hq0 hq1 hG hS hl
            have he9 : g12 43 (53 * v3_2.toInt.toNat + v4_13.toInt.toNat) = g 43 (53 * v3_2.toInt.toNat + v4_13.toInt.toNat) := by rw [hq0]; exact pr_at
            refine lv_iload hx hb dX8_passAllWeeks_13 (lv_at hl 0 rfl) ?_
            refine ty_bipush hx hb (53) dX8_passAllWeeks_15 (by decide) (fun x14 h15 => ?_)
            refine ty_icmp_ge (tgt := 54) hx hb dX8_passAllWeeks_17 (by decide) (fun c16 => ?_) (fun c16 => ?_)
            · skip
              obtain ⟨x17, h18⟩ : ∃ y : Int32, y = v3_2 + Int32.ofInt (1) := ⟨_, rfl⟩
              try have h19 : x17.toInt = v3_2.toInt + (1) := ty_inc h18 (by decide) (by omega) (by omega)
              refine lv_iinc (v := x17) (lv' := [(3, .int x17), (4, .int v4_13), (0, .ref h0), (1, .ref p1), (2, va_rf q2)]) hx hb dX8_passAllWeeks_54 hl (k := 1) rfl h18.symm (by decide) (by cases q2 <;> rfl) (fun ls hl => ?_)
              refine lv_goto (tgt := 2) hx hb dX8_passAllWeeks_57 (by decide) ?_
              have hk20 : g12 1 0 = g3 1 0 := hf13 1 0 (by decide) (by decide)
              exact ih_2 x17 g12 _ _ ls (by omega) (by omega) (fun c j h43 h53 => by rw [hf13 c j h43 h53, hf4 c j h43 h53]) (by rw [hq0]; exact congrArg (pr_f (g 43) ((j : Nat) : Int) z_q2) (by omega)) (hq1) hG hS (lv_sub hl [0, 2, 3, 4] rfl)
            · skip
              refine lv_aload_n hx hb dX8_passAllWeeks_20 rfl (lv_at hl 2 rfl) ?_
              refine get_X8_0 hx hb hA hown hE hG t_h0 wd_1_157 dX8_passAllWeeks_21 (fun b21 (t_b21 : ty Γ b21 10) => ?_)
              refine lv_iload_n hx hb dX8_passAllWeeks_24 rfl (lv_at hl 1 rfl) ?_
              refine ald_10 hx hb hE hG t_b21 (by omega) dX8_passAllWeeks_25 (fun j23 r22 h24 t_r22 h25 => ?_)
              obtain rfl : j23 = v3_2.toInt.toNat := by omega
              have hk26 : g12 33 0 = g3 33 0 := hf13 33 0 (by decide) (by decide)
              have hk27 : g3 33 0 = g 33 0 := hf4 33 0 (by decide) (by decide)
              obtain ⟨b28, h29⟩ := Option.ne_none_iff_exists'.mp (h25 (by omega))
              have t_b28 := t_r22 b28 h29
              clear h25 t_r22
              subst h29
              refine get_X1_3 hx hb hA hown hE hG t_b28 wd_1_219 dX8_passAllWeeks_26 (fun b30 t_b30 => ?_)
              refine lv_iload hx hb dX8_passAllWeeks_29 (lv_at hl 0 rfl) ?_
              refine ald_13 hx hb hE hG t_b30 (by omega) dX8_passAllWeeks_31 (fun j32 r31 h33 n_r31 t_r31 => ?_)
              obtain rfl : j32 = v4_13.toInt.toNat := by omega
              clear h33
              refine lv_aload_n hx hb dX8_passAllWeeks_32 rfl (lv_at hl 3 rfl) ?_
              have hq36 := rq_eq hU (by decide : sg2 3 = true) (And.intro n_r31 t_r31) (rq_s t_p1)
              refine lv_acmp_ne (rx := r31) (ry := some p1) (tgt := 48) hx hb dX8_passAllWeeks_33 (by decide) (fun h35 => ?_) (fun h35 => ?_)
              · skip
                replace hq36 : ¬ ((g12 43 (53 * v3_2.toInt.toNat + v4_13.toInt.toNat)) = ((j : Nat) : Int)) := fun q => h35 (hq36.mpr q)
                obtain ⟨x37, h38⟩ : ∃ y : Int32, y = v4_13 + Int32.ofInt (1) := ⟨_, rfl⟩
                try have h39 : x37.toInt = v4_13.toInt + (1) := ty_inc h38 (by decide) (by omega) (by omega)
                refine lv_iinc (v := x37) (lv' := [(4, .int x37), (3, .int v3_2), (0, .ref h0), (1, .ref p1), (2, va_rf q2)]) hx hb dX8_passAllWeeks_48 hl (k := 0) rfl h38.symm (by decide) rfl (fun ls hl => ?_)
                refine lv_goto (tgt := 13) hx hb dX8_passAllWeeks_51 (by decide) ?_
                exact ih_13 x37 g12 _ _ ls (by omega) (by omega) (fun c j h43 h53 => by rw [hf13 c j h43 h53]) (pr_n (n := 53 * v3_2.toInt.toNat + v4_13.toInt.toNat) (by omega) (by omega) hq0) (hq1) hG hS (lv_sub hl [0, 1, 2, 3, 4] rfl)
              · skip
                replace hq36 : (g12 43 (53 * v3_2.toInt.toNat + v4_13.toInt.toNat)) = ((j : Nat) : Int) := hq36.mp h35
                refine lv_aload_n hx hb dX8_passAllWeeks_36 rfl (lv_at hl 2 rfl) ?_
                refine get_X8_0 hx hb hA hown hE hG t_h0 wd_1_157 dX8_passAllWeeks_37 (fun b40 (t_b40 : ty Γ b40 10) => ?_)
                refine lv_iload_n hx hb dX8_passAllWeeks_40 rfl (lv_at hl 1 rfl) ?_
                refine ald_10 hx hb hE hG t_b40 (by omega) dX8_passAllWeeks_41 (fun j42 r41 h43 t_r41 h44 => ?_)
                obtain rfl : j42 = v3_2.toInt.toNat := by omega
                obtain ⟨b45, h46⟩ := Option.ne_none_iff_exists'.mp (h44 (by omega))
                have t_b45 := t_r41 b45 h46
                clear h44 t_r41
                subst h46
                refine lv_iload hx hb dX8_passAllWeeks_42 (lv_at hl 0 rfl) ?_
                refine ty_aload_nq hx hb dX8_passAllWeeks_44 rfl (lv_at hl 4 rfl) ?_
                refine cV (va_runV (C := RX1) (As := [.int v4_13, va_rf q2]) (rest := []) ⟨hx, hb, hml, hown, hA⟩ (k_X1_passTo l dC dI dA sz X Γ hU g12 b45 v3_2.toInt.toNat t_b45 v4_13 (q2) (z_q2) (And.intro n_q2 t_q2).1 (And.intro n_q2 t_q2).2   (by omega)) ⟨callB_of 2 hA (al_A wd_2_71) rfl rfl rfl (hA _ wd_1_8) (hA _ wd_2_68) (by decide +kernel) ⟨Nat.le_of_ble_eq_true rfl, Nat.le_of_ble_eq_true rfl⟩, hA _ wd_2_69, hA _ wd_2_70⟩ ⟨bl, recv_X1 hE hG (by rw [t_b45]), fun U hU9 hW9 => ⟨rfl, by rw [hU9]; exact hG, hE.go hS hU9 hW9⟩⟩ rfl rfl hl.1 rfl (lv_room (Nat.le_of_ble_eq_true rfl)) dX8_passAllWeeks_45 ⟨Nat.zero_le _, Nat.zero_le _⟩) hS (fun u47 H locs w48 hG hS => ?_)
                obtain ⟨hf51, hq49, hq50⟩ := w48
                have hn52 : g12 43 = (pr_f (g 43) ((j : Nat) : Int) z_q2 (53 * v3_2.toInt.toNat + v4_13.toInt.toNat)) := by rw [hq0]
                rw [hn52] at hq49
                have hn53 : g12 43 = (pr_f (g 43) ((j : Nat) : Int) z_q2 (53 * v3_2.toInt.toNat + v4_13.toInt.toNat)) := by rw [hq0]
                rw [hn53] at hq50
                obtain ⟨x54, h55⟩ : ∃ y : Int32, y = v4_13 + Int32.ofInt (1) := ⟨_, rfl⟩
                try have h56 : x54.toInt = v4_13.toInt + (1) := ty_inc h55 (by decide) (by omega) (by omega)
                refine lv_iinc (v := x54) (lv' := [(4, .int x54), (3, .int v3_2), (0, .ref h0), (1, .ref p1), (2, va_rf q2)]) hx hb dX8_passAllWeeks_48 hl (k := 0) rfl h55.symm (by decide) rfl (fun ls hl => ?_)
                refine lv_goto (tgt := 13) hx hb dX8_passAllWeeks_51 (by decide) ?_
                exact ih_13 x54 u47 _ _ ls (by omega) (by omega) (fun c j h43 h53 => by rw [hf51 c j h43 h53, hf13 c j h43 h53]) (by rw [hq49]; exact pr_s (n := 53 * v3_2.toInt.toNat + v4_13.toInt.toNat) (by omega) rfl rfl (by omega) rfl) (by rw [hq49]; rw [hq50]; exact OW_pass (by rw [← hq0]; exact hq1) (by omega) (by rw [pr_at]; omega) (by omega)) hG hS (lv_sub hl [0, 1, 2, 3, 4] rfl)
        exact L_13 ((53 - x10.toInt) + 1).toNat x10 g3 _ _ ls (by omega) (by omega) (fun c j _ _ => rfl) (by rw [hq0]; exact congrArg (pr_f (g 43) ((j : Nat) : Int) z_q2) (by omega)) (hq1) hG hS (lv_sub hl [0, 1, 2, 3, 4] rfl)
  exact L_2 ((g 1 0 - x1.toInt) + 1).toNat x1 g _ _ ls (by omega) (by omega) (fun c j _ _ => rfl) (pr_0 (by omega)) (hOW) hG hS (lv_sub hl [0, 1, 2, 3] rfl)
