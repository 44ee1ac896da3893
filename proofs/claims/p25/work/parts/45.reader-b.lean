set_option maxHeartbeats 4000000 in
set_option maxRecDepth 100000 in
/-- WeekBank$Reader.isWord:  -/
theorem k_X4_isWord (l : Launch) (dC : Nat → ClassId) (dI : Nat → Nat → Nat) (dA : Nat → ClassId) (sz : Nat) (X : va_W) (Γ : ty_G) (hU : Un Γ) (g : gh) (h0 : Nat) (t_h0 : ty Γ h0 7) (kk : Nat) (hkk : kk < 12) (T : Nat → Int) (N9 : Nat) (hp : 0 ≤ g 17 0 ∧ g 17 0 ≤ g 16 0 ∧ g 16 0 ≤ g 6 0 ∧ g 6 0 ≤ 300) (hT : g 19 = T) (hN : g 6 0 = (N9 : Int)) : Met l yX4_isWord (.code yX4_isWord cX4_isWord 3 (Option.some Jvm.ClassFile.FieldType.boolean) :: AL) ({ frames := 4, cells := 0, slots := 0, locals := 85 }) (PCx dC dI dA sz X Γ g [.ref h0, .ref (dI 100 kk)]) (va_Qi (fun (r : Int32) (u : gh) => u = g ∧ ((r.toInt = 0 ∨ r.toInt = 1)) ∧ (pz_W T (pz_c g) (sB kk) = decide (r.toInt = 1))) (okb dC dI dA sz X Γ) (ty_A sz)) 0 0 (ty_A sz) := by
  refine Met.ofW (cc := cX4_isWord) (maxL := 3) (ret := (Option.some Jvm.ClassFile.FieldType.boolean)) (by decide) rfl ?_
  intro p e s m args below meth c s₁ B hml hv
  obtain ⟨rfl, hG, hE⟩ := hv
  have hx := B.exec
  have hb := B.bytes
  have hr := B.returns
  have hts := atoms_spec B.pre
  have hA : ∀ w ∈ AL, w.before _ s = true := fun w h => hts w (List.mem_cons_of_mem _ h)
  have hown : s.vm.findClass RX4 = some m.cls := findClass_of_methodNamed B.named
  have hlocks := B.notSynchronized
  have hS : va_S (ty_A sz) s.heap s.heap [] := va_S.rf
  have hES := hE.2.1.2.2.2.2.2.2
  have hl := lv_entry ([.ref h0, .ref (dI 100 kk)]) (n := 3) (Nat.le_of_ble_eq_true rfl)
  rw [lg_entry_eq]
  generalize (lg_sl ([.ref h0, .ref (dI 100 kk)]) ++ List.replicate (3 - (lg_sl ([.ref h0, .ref (dI 100 kk)])).length) Slot.unset).toArray = ls at hl ⊢
  have hl : lv_has ls 3 [(0, .ref h0), (1, .ref (dI 100 kk))] := hl
  refine lv_aload_n hx hb dX4_isWord_0 rfl (lv_at hl 0 rfl) ?_
  refine get_X4_5 hx hb hA hown hE hG t_h0 wd_1_50 dX4_isWord_1 (fun x1 h2 => ?_)
  refine ty_iconst hx hb (1) dX4_isWord_4 (by decide) (fun x4 h5 => ?_)
  refine ty_icmp_ne (tgt := 24) hx hb dX4_isWord_5 (by decide) (fun c6 => ?_) (fun c6 => ?_)
  · skip
    refine ty_iconst hx hb (0) dX4_isWord_24 (by decide) (fun x7 h8 => ?_)
    exact W.zret (v := x7) hx hb hr (ty_nb (by omega)).1 (fun t ht hW => ⟨⟨x7, g, rfl, ⟨rfl, (by omega), (by rw [show decide (x7.toInt = 1) = false from decide_eq_false (by omega)]; exact pz_Wf1 (x := (pz_c g)) (show g 15 0 ≠ 1 by omega))⟩, ok1 ht hG⟩, hS.F ht⟩) hS.2.2 dX4_isWord_25
  · skip
    refine lv_aload_n hx hb dX4_isWord_8 rfl (lv_at hl 0 rfl) ?_
    refine get_X4_4 hx hb hA hown hE hG t_h0 wd_1_49 dX4_isWord_9 (fun x9 h10 => ?_)
    refine lv_aload_n hx hb dX4_isWord_12 rfl (lv_at hl 0 rfl) ?_
    refine get_X4_6 hx hb hA hown hE hG t_h0 wd_1_51 dX4_isWord_13 (fun x12 h13 => ?_)
    refine ty_isub hx hb dX4_isWord_16 (fun x15 h16 => ?_)
    try have h17 : x15.toInt = x9.toInt - x12.toInt := ty_sub h16 (by omega) (by omega)
    refine lv_aload_n hx hb dX4_isWord_17 rfl (lv_at hl 1 rfl) ?_
    refine cI (va_runV (C := RJ0) (As := []) (rest := [.int x15]) ⟨hx, hb, hml, hown, hA⟩ (k_J0_length_8abf5 l dC dI dA sz X Γ hU g kk hkk   ) ⟨callB_of 0 hA (al_A wd_2_134) rfl rfl rfl (hA _ wd_1_10) (hA _ wd_2_131) (by decide +kernel) ⟨Nat.le_of_ble_eq_true rfl, Nat.le_of_ble_eq_true rfl⟩, hA _ wd_2_132, hA _ wd_2_133⟩ ⟨bl, str_recv hES hS hkk, fun U hU9 hW9 => ⟨rfl, by rw [hU9]; exact hG, hE.go hS hU9 hW9⟩⟩ rfl rfl hl.1 rfl (lv_room (Nat.le_of_ble_eq_true rfl)) dX4_isWord_18 ⟨Nat.zero_le _, Nat.zero_le _⟩) hS (fun x20 u18 H locs w19 hG hS => ?_)
    obtain ⟨eu21, w19⟩ := w19
    rw [eu21] at hG
    refine ty_icmp_eq (tgt := 26) hx hb dX4_isWord_21 (by decide) (fun c22 => ?_) (fun c22 => ?_)
    · skip
      refine ty_iconst hx hb (0) dX4_isWord_26 (by decide) (fun x23 h24 => ?_)
      refine lv_istore_n (lv' := [(2, .int x23), (0, .ref h0), (1, .ref (dI 100 kk))]) hx hb dX4_isWord_27 rfl hl (by decide) rfl (fun ls hl => ?_)
      have L_28 : ∀ (n : Nat) (v2_28 : Int32) (H : Heap) (locs : List Loc) (ls : Array Slot), (((sB kk).length : Int) - v2_28.toInt : Int) < n → 0 ≤ v2_28.toInt ∧ v2_28.toInt ≤ ((sB kk).length : Int) → (∀ i : Nat, (i : Int) < v2_28.toInt → T ((g 17 0).toNat + i) = ((sB kk).getD i 0).toInt) → ty_ok (dC, dI) vwCl Γ (TP dA Γ g) sz X H → va_S (ty_A sz) s.heap H locs → lv_has ls 3 [(2, .int v2_28), (0, .ref h0), (1, .ref (dI 100 kk))] → W p l e (headSpec (.code yX4_isWord cX4_isWord 3 (Option.some Jvm.ClassFile.FieldType.boolean) :: AL) ({ frames := 4, cells := 0, slots := 0, locals := 85 })).room s m ([.ref h0, .ref (dI 100 kk)] : List Value).toArray below meth c H locs 0 0 (MQ below (va_Qi (fun (r : Int32) (u : gh) => u = g ∧ ((r.toInt = 0 ∨ r.toInt = 1)) ∧ (pz_W T (pz_c g) (sB kk) = decide (r.toInt = 1))) (okb dC dI dA sz X Γ) (ty_A sz)) ([.ref h0, .ref (dI 100 kk)] : List Value).toArray s 0 0 (ty_A sz)) (F0 m 28 ls []) := by
        intro n
        induction n with
        | zero => intro v2_28 H locs ls hm hi0 hq0 hG hS hl; exfalso; omega
        | succ n ih_28 =>
          intro v2_28 H locs ls hm hi0 hq0 hG hS hl
          refine lv_iload_n hx hb dX4_isWord_28 rfl (lv_at hl 0 rfl) ?_
          refine lv_aload_n hx hb dX4_isWord_29 rfl (lv_at hl 2 rfl) ?_
          refine cI (va_runV (C := RJ0) (As := []) (rest := [.int v2_28]) ⟨hx, hb, hml, hown, hA⟩ (k_J0_length_8abf5 l dC dI dA sz X Γ hU g kk hkk   ) ⟨callB_of 0 hA (al_A wd_2_134) rfl rfl rfl (hA _ wd_1_10) (hA _ wd_2_131) (by decide +kernel) ⟨Nat.le_of_ble_eq_true rfl, Nat.le_of_ble_eq_true rfl⟩, hA _ wd_2_132, hA _ wd_2_133⟩ ⟨bl, str_recv hES hS hkk, fun U hU9 hW9 => ⟨rfl, by rw [hU9]; exact hG, hE.go hS hU9 hW9⟩⟩ rfl rfl hl.1 rfl (lv_room (Nat.le_of_ble_eq_true rfl)) dX4_isWord_30 ⟨Nat.zero_le _, Nat.zero_le _⟩) hS (fun x28 u26 H locs w27 hG hS => ?_)
          obtain ⟨eu29, w27⟩ := w27
          rw [eu29] at hG
          refine ty_icmp_ge (tgt := 63) hx hb dX4_isWord_33 (by decide) (fun c30 => ?_) (fun c30 => ?_)
          · skip
            refine ty_iconst hx hb (1) dX4_isWord_63 (by decide) (fun x31 h32 => ?_)
            exact W.zret (v := x31) hx hb hr (ty_nb (by omega)).1 (fun t ht hW => ⟨⟨x31, g, rfl, ⟨rfl, (by omega), (by rw [show decide (x31.toInt = 1) = true from decide_eq_true (by omega)]; exact pz_Wt (x := (pz_c g)) (by show g 15 0 = 1; omega) (show g 16 0 - g 17 0 = ((sB kk).length : Int) by omega) (fun i hi => hq0 i (by omega)))⟩, ok1 ht hG⟩, hS.F ht⟩) hS.2.2 dX4_isWord_64
          · skip
            refine lv_aload_n hx hb dX4_isWord_36 rfl (lv_at hl 1 rfl) ?_
            refine get_X4_0 hx hb hA hown hE hG t_h0 wd_1_42 dX4_isWord_37 (fun b33 (t_b33 : ty Γ b33 18) => ?_)
            refine lv_aload_n hx hb dX4_isWord_40 rfl (lv_at hl 1 rfl) ?_
            refine get_X4_6 hx hb hA hown hE hG t_h0 wd_1_51 dX4_isWord_41 (fun x34 h35 => ?_)
            refine lv_iload_n hx hb dX4_isWord_44 rfl (lv_at hl 0 rfl) ?_
            refine ty_iadd hx hb dX4_isWord_45 (fun x37 h38 => ?_)
            try have h39 : x37.toInt = x34.toInt + v2_28.toInt := ty_add h38 (by omega) (by omega)
            refine ald_18 hx hb hE hG t_b33 (by omega) dX4_isWord_46 (fun j41 x40 h42 h43 => ?_)
            obtain rfl : j41 = x37.toInt.toNat := by omega
            replace h43 : x40.toInt = T x37.toInt.toNat := by rw [h43, hT]
            refine lv_aload_n hx hb dX4_isWord_47 rfl (lv_at hl 2 rfl) ?_
            refine lv_iload_n hx hb dX4_isWord_48 rfl (lv_at hl 0 rfl) ?_
            refine cI (va_runV (C := RJ0) (As := [.int v2_28]) (rest := [.int x40]) ⟨hx, hb, hml, hown, hA⟩ (k_J0_charAt_5068e l dC dI dA sz X Γ hU g kk hkk v2_28   (by omega)) ⟨callB_of 1 hA (al_A wd_2_144) rfl rfl rfl (hA _ wd_1_10) (hA _ wd_2_141) (by decide +kernel) ⟨Nat.le_of_ble_eq_true rfl, Nat.le_of_ble_eq_true rfl⟩, hA _ wd_2_142, hA _ wd_2_143⟩ ⟨bl, str_recv hES hS hkk, fun U hU9 hW9 => ⟨rfl, by rw [hU9]; exact hG, hE.go hS hU9 hW9⟩⟩ rfl rfl hl.1 rfl (lv_room (Nat.le_of_ble_eq_true rfl)) dX4_isWord_49 ⟨Nat.zero_le _, Nat.zero_le _⟩) hS (fun x46 u44 H locs w45 hG hS => ?_)
            obtain ⟨eu47, w45⟩ := w45
            rw [eu47] at hG
            have hch9 : x46.toInt = ((sB kk).getD v2_28.toInt.toNat 0).toInt := by rw [w45]
            have htx9 : x40.toInt = T ((g 17 0).toNat + v2_28.toInt.toNat) := by rw [show (g 17 0).toNat + v2_28.toInt.toNat = x37.toInt.toNat by omega]; omega
            have hbd9 := sB_rg kk hkk v2_28.toInt.toNat
            refine ty_icmp_eq (tgt := 57) hx hb dX4_isWord_52 (by decide) (fun c48 => ?_) (fun c48 => ?_)
            · skip
              obtain ⟨x49, h50⟩ : ∃ y : Int32, y = v2_28 + Int32.ofInt (1) := ⟨_, rfl⟩
              try have h51 : x49.toInt = v2_28.toInt + (1) := ty_inc h50 (by decide) (by omega) (by omega)
              refine lv_iinc (v := x49) (lv' := [(2, .int x49), (0, .ref h0), (1, .ref (dI 100 kk))]) hx hb dX4_isWord_57 hl (k := 0) rfl h50.symm (by decide) rfl (fun ls hl => ?_)
              refine lv_goto (tgt := 28) hx hb dX4_isWord_60 (by decide) ?_
              exact ih_28 x49 _ _ ls (by omega) (by omega) (fun i hi => by by_cases e9 : i = v2_28.toInt.toNat; (rw [e9]; omega); exact hq0 i (by omega)) hG hS (lv_sub hl [0, 1, 2] rfl)
            · skip
              refine ty_iconst hx hb (0) dX4_isWord_55 (by decide) (fun x52 h53 => ?_)
              exact W.zret (v := x52) hx hb hr (ty_nb (by omega)).1 (fun t ht hW => ⟨⟨x52, g, rfl, ⟨rfl, (by omega), (by rw [show decide (x52.toInt = 1) = false from decide_eq_false (by omega)]; exact pz_Wf3 (x := (pz_c g)) (i := v2_28.toInt.toNat) (by omega) (by show T ((g 17 0).toNat + v2_28.toInt.toNat) ≠ ((sB kk).getD v2_28.toInt.toNat 0).toInt; omega))⟩, ok1 ht hG⟩, hS.F ht⟩) hS.2.2 dX4_isWord_56
      exact L_28 ((((sB kk).length : Int) - x23.toInt) + 1).toNat x23 _ _ ls (by omega) (by omega) (fun i hi => absurd hi (by omega)) hG hS (lv_sub hl [0, 1, 2] rfl)
    · skip
      refine ty_iconst hx hb (0) dX4_isWord_24 (by decide) (fun x54 h55 => ?_)
      exact W.zret (v := x54) hx hb hr (ty_nb (by omega)).1 (fun t ht hW => ⟨⟨x54, g, rfl, ⟨rfl, (by omega), (by rw [show decide (x54.toInt = 1) = false from decide_eq_false (by omega)]; exact pz_Wf2 (x := (pz_c g)) (show g 16 0 - g 17 0 ≠ ((sB kk).length : Int) by omega))⟩, ok1 ht hG⟩, hS.F ht⟩) hS.2.2 dX4_isWord_25

set_option maxHeartbeats 4000000 in
set_option maxRecDepth 100000 in
/-- WeekBank$Reader.statementKind:  -/
theorem k_X4_statementKind (l : Launch) (dC : Nat → ClassId) (dI : Nat → Nat → Nat) (dA : Nat → ClassId) (sz : Nat) (X : va_W) (Γ : ty_G) (hU : Un Γ) (g : gh) (h0 : Nat) (t_h0 : ty Γ h0 7) (T : Nat → Int) (N9 : Nat) (hp : 0 ≤ g 17 0 ∧ g 17 0 ≤ g 16 0 ∧ g 16 0 ≤ g 6 0 ∧ g 6 0 ≤ 300) (hT : g 19 = T) (hN : g 6 0 = (N9 : Int)) : Met l yX4_statementKind (.code yX4_statementKind cX4_statementKind 1 (Option.some Jvm.ClassFile.FieldType.int) :: AL) ({ frames := 5, cells := 0, slots := 0, locals := 107 }) (PCx dC dI dA sz X Γ g [.ref h0]) (va_Qi (fun (r : Int32) (u : gh) => u = g ∧ ((0 ≤ r.toInt ∧ r.toInt ≤ 4)) ∧ (pz_k T (pz_c g) = r.toInt)) (okb dC dI dA sz X Γ) (ty_A sz)) 0 0 (ty_A sz) := by
  refine Met.ofW (cc := cX4_statementKind) (maxL := 1) (ret := (Option.some Jvm.ClassFile.FieldType.int)) (by decide) rfl ?_
  intro p e s m args below meth c s₁ B hml hv
  obtain ⟨rfl, hG, hE⟩ := hv
  have hx := B.exec
  have hb := B.bytes
  have hr := B.returns
  have hts := atoms_spec B.pre
  have hA : ∀ w ∈ AL, w.before _ s = true := fun w h => hts w (List.mem_cons_of_mem _ h)
  have hown : s.vm.findClass RX4 = some m.cls := findClass_of_methodNamed B.named
  have hlocks := B.notSynchronized
  have hS : va_S (ty_A sz) s.heap s.heap [] := va_S.rf
  have hES := hE.2.1.2.2.2.2.2.2
  have hl := lv_entry ([.ref h0]) (n := 1) (Nat.le_of_ble_eq_true rfl)
  rw [lg_entry_eq]
  generalize (lg_sl ([.ref h0]) ++ List.replicate (1 - (lg_sl ([.ref h0])).length) Slot.unset).toArray = ls at hl ⊢
  have hl : lv_has ls 1 [(0, .ref h0)] := hl
  refine lv_aload_n hx hb dX4_statementKind_0 rfl (lv_at hl 0 rfl) ?_
  refine va_ldcS hx hb hown (hES.1 0 (by decide)).1 dX4_statementKind_1 ?_
  refine cI (va_runV (C := RX4) (As := [.ref (dI 100 0)]) (rest := []) ⟨hx, hb, hml, hown, hA⟩ (k_X4_isWord l dC dI dA sz X Γ hU g h0 t_h0 0 (by decide) T N9  (by omega) (hT) (by omega)) ⟨callB_of 1 hA (al_A wd_2_130) rfl rfl rfl (hA _ wd_1_2) (hA _ wd_2_127) (by decide +kernel) ⟨Nat.le_of_ble_eq_true rfl, Nat.le_of_ble_eq_true rfl⟩, hA _ wd_2_129, hA _ ws_8⟩ ⟨bl, recv_X4 hE hG t_h0, fun U hU9 hW9 => ⟨rfl, by rw [hU9]; exact hG, hE.go hS hU9 hW9⟩⟩ rfl rfl hl.1 rfl (lv_room (Nat.le_of_ble_eq_true rfl)) dX4_statementKind_3 ⟨Nat.zero_le _, Nat.zero_le _⟩) hS (fun x3 u1 H locs w2 hG hS => ?_)
  obtain ⟨eu5, w2, hq4⟩ := w2
  rw [eu5] at hG
  refine ty_if_eq (tgt := 11) hx hb dX4_statementKind_6 (by decide) (fun c6 => ?_) (fun c6 => ?_)
  · skip
    refine lv_aload_n hx hb dX4_statementKind_11 rfl (lv_at hl 0 rfl) ?_
    refine va_ldcS hx hb hown (hES.1 1 (by decide)).1 dX4_statementKind_12 ?_
    refine cI (va_runV (C := RX4) (As := [.ref (dI 100 1)]) (rest := []) ⟨hx, hb, hml, hown, hA⟩ (k_X4_isWord l dC dI dA sz X Γ hU g h0 t_h0 1 (by decide) T N9  (by omega) (hT) (by omega)) ⟨callB_of 1 hA (al_A wd_2_130) rfl rfl rfl (hA _ wd_1_2) (hA _ wd_2_127) (by decide +kernel) ⟨Nat.le_of_ble_eq_true rfl, Nat.le_of_ble_eq_true rfl⟩, hA _ wd_2_129, hA _ ws_8⟩ ⟨bl, recv_X4 hE hG t_h0, fun U hU9 hW9 => ⟨rfl, by rw [hU9]; exact hG, hE.go hS hU9 hW9⟩⟩ rfl rfl hl.1 rfl (lv_room (Nat.le_of_ble_eq_true rfl)) dX4_statementKind_14 ⟨Nat.zero_le _, Nat.zero_le _⟩) hS (fun x9 u7 H locs w8 hG hS => ?_)
    obtain ⟨eu11, w8, hq10⟩ := w8
    rw [eu11] at hG
    refine ty_if_eq (tgt := 22) hx hb dX4_statementKind_17 (by decide) (fun c12 => ?_) (fun c12 => ?_)
    · skip
      refine lv_aload_n hx hb dX4_statementKind_22 rfl (lv_at hl 0 rfl) ?_
      refine va_ldcS hx hb hown (hES.1 2 (by decide)).1 dX4_statementKind_23 ?_
      refine cI (va_runV (C := RX4) (As := [.ref (dI 100 2)]) (rest := []) ⟨hx, hb, hml, hown, hA⟩ (k_X4_isWord l dC dI dA sz X Γ hU g h0 t_h0 2 (by decide) T N9  (by omega) (hT) (by omega)) ⟨callB_of 1 hA (al_A wd_2_130) rfl rfl rfl (hA _ wd_1_2) (hA _ wd_2_127) (by decide +kernel) ⟨Nat.le_of_ble_eq_true rfl, Nat.le_of_ble_eq_true rfl⟩, hA _ wd_2_129, hA _ ws_8⟩ ⟨bl, recv_X4 hE hG t_h0, fun U hU9 hW9 => ⟨rfl, by rw [hU9]; exact hG, hE.go hS hU9 hW9⟩⟩ rfl rfl hl.1 rfl (lv_room (Nat.le_of_ble_eq_true rfl)) dX4_statementKind_25 ⟨Nat.zero_le _, Nat.zero_le _⟩) hS (fun x15 u13 H locs w14 hG hS => ?_)
      obtain ⟨eu17, w14, hq16⟩ := w14
      rw [eu17] at hG
      refine ty_if_eq (tgt := 33) hx hb dX4_statementKind_28 (by decide) (fun c18 => ?_) (fun c18 => ?_)
      · skip
        refine lv_aload_n hx hb dX4_statementKind_33 rfl (lv_at hl 0 rfl) ?_
        refine va_ldcS hx hb hown (hES.1 3 (by decide)).1 dX4_statementKind_34 ?_
        refine cI (va_runV (C := RX4) (As := [.ref (dI 100 3)]) (rest := []) ⟨hx, hb, hml, hown, hA⟩ (k_X4_isWord l dC dI dA sz X Γ hU g h0 t_h0 3 (by decide) T N9  (by omega) (hT) (by omega)) ⟨callB_of 1 hA (al_A wd_2_130) rfl rfl rfl (hA _ wd_1_2) (hA _ wd_2_127) (by decide +kernel) ⟨Nat.le_of_ble_eq_true rfl, Nat.le_of_ble_eq_true rfl⟩, hA _ wd_2_129, hA _ ws_8⟩ ⟨bl, recv_X4 hE hG t_h0, fun U hU9 hW9 => ⟨rfl, by rw [hU9]; exact hG, hE.go hS hU9 hW9⟩⟩ rfl rfl hl.1 rfl (lv_room (Nat.le_of_ble_eq_true rfl)) dX4_statementKind_36 ⟨Nat.zero_le _, Nat.zero_le _⟩) hS (fun x21 u19 H locs w20 hG hS => ?_)
        obtain ⟨eu23, w20, hq22⟩ := w20
        rw [eu23] at hG
        refine ty_if_eq (tgt := 46) hx hb dX4_statementKind_39 (by decide) (fun c24 => ?_) (fun c24 => ?_)
        · skip
          refine ty_iconst hx hb (0) dX4_statementKind_46 (by decide) (fun x25 h26 => ?_)
          exact W.iret (v := x25) hx hb hr (fun t ht hW => ⟨⟨x25, g, rfl, ⟨rfl, (by omega), (by first | (rw [pz_k4 (hq4.trans (decide_eq_false (by omega))) (hq10.trans (decide_eq_false (by omega))) (hq16.trans (decide_eq_false (by omega))) (hq22.trans (decide_eq_true (by omega)))]; omega) | (rw [pz_k0 (hq4.trans (decide_eq_false (by omega))) (hq10.trans (decide_eq_false (by omega))) (hq16.trans (decide_eq_false (by omega))) (hq22.trans (decide_eq_false (by omega)))]; omega))⟩, ok1 ht hG⟩, hS.F ht⟩) hS.2.2 dX4_statementKind_47
        · skip
          refine ty_iconst hx hb (4) dX4_statementKind_42 (by decide) (fun x27 h28 => ?_)
          refine lv_goto (tgt := 47) hx hb dX4_statementKind_43 (by decide) ?_
          exact W.iret (v := x27) hx hb hr (fun t ht hW => ⟨⟨x27, g, rfl, ⟨rfl, (by omega), (by first | (rw [pz_k4 (hq4.trans (decide_eq_false (by omega))) (hq10.trans (decide_eq_false (by omega))) (hq16.trans (decide_eq_false (by omega))) (hq22.trans (decide_eq_true (by omega)))]; omega) | (rw [pz_k0 (hq4.trans (decide_eq_false (by omega))) (hq10.trans (decide_eq_false (by omega))) (hq16.trans (decide_eq_false (by omega))) (hq22.trans (decide_eq_false (by omega)))]; omega))⟩, ok1 ht hG⟩, hS.F ht⟩) hS.2.2 dX4_statementKind_47
      · skip
        refine ty_iconst hx hb (3) dX4_statementKind_31 (by decide) (fun x29 h30 => ?_)
        exact W.iret (v := x29) hx hb hr (fun t ht hW => ⟨⟨x29, g, rfl, ⟨rfl, (by omega), (by rw [pz_k3 (hq4.trans (decide_eq_false (by omega))) (hq10.trans (decide_eq_false (by omega))) (hq16.trans (decide_eq_true (by omega)))]; omega)⟩, ok1 ht hG⟩, hS.F ht⟩) hS.2.2 dX4_statementKind_32
    · skip
      refine ty_iconst hx hb (2) dX4_statementKind_20 (by decide) (fun x31 h32 => ?_)
      exact W.iret (v := x31) hx hb hr (fun t ht hW => ⟨⟨x31, g, rfl, ⟨rfl, (by omega), (by rw [pz_k2 (hq4.trans (decide_eq_false (by omega))) (hq10.trans (decide_eq_true (by omega)))]; omega)⟩, ok1 ht hG⟩, hS.F ht⟩) hS.2.2 dX4_statementKind_21
  · skip
    refine ty_iconst hx hb (1) dX4_statementKind_9 (by decide) (fun x33 h34 => ?_)
    exact W.iret (v := x33) hx hb hr (fun t ht hW => ⟨⟨x33, g, rfl, ⟨rfl, (by omega), (by rw [pz_k1 (hq4.trans (decide_eq_true (by omega)))]; omega)⟩, ok1 ht hG⟩, hS.F ht⟩) hS.2.2 dX4_statementKind_10

set_option maxHeartbeats 4000000 in
set_option maxRecDepth 100000 in
/-- WeekBank$Reader.blame:  -/
theorem k_X4_blame (l : Launch) (dC : Nat → ClassId) (dI : Nat → Nat → Nat) (dA : Nat → ClassId) (sz : Nat) (X : va_W) (Γ : ty_G) (hU : Un Γ) (g : gh) (h0 : Nat) (t_h0 : ty Γ h0 7) (p1 : Int32) : Met l yX4_blame (.code yX4_blame cX4_blame 2 (Option.none : Option Jvm.ClassFile.FieldType) :: AL) ({ frames := 0, cells := 0, slots := 0, locals := 0 }) (PCx dC dI dA sz X Γ g [.ref h0, .int p1]) (va_Qv (fun (u : gh) => (∀ c j : Nat, c ≠ 9 → c ≠ 14 → u c j = g c j) ∧ ((u 9 0 = u 9 0 ∧ u 14 0 = u 14 0 ∧ u 15 0 = u 15 0 ∧ u 16 0 = u 16 0 ∧ u 17 0 = u 17 0 ∧ u 18 0 = u 18 0) ∧ (u 9 0 = p1.toInt)) ∧ (pz_c u = pz_bl p1.toInt (pz_c g))) (okb dC dI dA sz X Γ) (ty_A sz)) 0 0 (ty_A sz) := by
  refine Met.ofW (cc := cX4_blame) (maxL := 2) (ret := (Option.none : Option Jvm.ClassFile.FieldType)) (by decide) rfl ?_
  intro p e s m args below meth c s₁ B hml hv
  obtain ⟨rfl, hG, hE⟩ := hv
  have hx := B.exec
  have hb := B.bytes
  have hr := B.returns
  have hts := atoms_spec B.pre
  have hA : ∀ w ∈ AL, w.before _ s = true := fun w h => hts w (List.mem_cons_of_mem _ h)
  have hown : s.vm.findClass RX4 = some m.cls := findClass_of_methodNamed B.named
  have hlocks := B.notSynchronized
  have hS : va_S (ty_A sz) s.heap s.heap [] := va_S.rf
  have hl := lv_entry ([.ref h0, .int p1]) (n := 2) (Nat.le_of_ble_eq_true rfl)
  rw [lg_entry_eq]
  generalize (lg_sl ([.ref h0, .int p1]) ++ List.replicate (2 - (lg_sl ([.ref h0, .int p1])).length) Slot.unset).toArray = ls at hl ⊢
  have hl : lv_has ls 2 [(0, .ref h0), (1, .int p1)] := hl
  refine lv_aload_n hx hb dX4_blame_0 rfl (lv_at hl 0 rfl) ?_
  refine lv_iload_n hx hb dX4_blame_1 rfl (lv_at hl 1 rfl) ?_
  refine put_X4_2 hx hb hA hown hE hG hS hU t_h0 wd_1_45 dX4_blame_2 (fun H locs hG hS => ?_)
  refine lv_aload_n hx hb dX4_blame_5 rfl (lv_at hl 0 rfl) ?_
  refine lv_aload_n hx hb dX4_blame_6 rfl (lv_at hl 0 rfl) ?_
  refine get_X4_6 hx hb hA hown hE hG t_h0 wd_1_51 dX4_blame_7 (fun x1 h2 => ?_)
  replace h2 : x1.toInt = g 17 0 := by rw [h2, gs_c _ _ _ _ (by decide)]
  refine put_X4_3 hx hb hA hown hE hG hS hU t_h0 wd_1_47 dX4_blame_10 (fun H locs hG hS => ?_)
  have e4 : (gs (gs g 9 0 p1.toInt) 14 0 x1.toInt) 9 0 = p1.toInt := by rw [gs_c _ _ _ _ (by decide), gs_self]
  have e5 : (gs (gs g 9 0 p1.toInt) 14 0 x1.toInt) 14 0 = x1.toInt := by rw [gs_self]
  have e6 : (gs (gs g 9 0 p1.toInt) 14 0 x1.toInt) 15 0 = g 15 0 := by rw [gs_c _ _ _ _ (by decide), gs_c _ _ _ _ (by decide)]
  have e7 : (gs (gs g 9 0 p1.toInt) 14 0 x1.toInt) 16 0 = g 16 0 := by rw [gs_c _ _ _ _ (by decide), gs_c _ _ _ _ (by decide)]
  have e8 : (gs (gs g 9 0 p1.toInt) 14 0 x1.toInt) 17 0 = g 17 0 := by rw [gs_c _ _ _ _ (by decide), gs_c _ _ _ _ (by decide)]
  have e9 : (gs (gs g 9 0 p1.toInt) 14 0 x1.toInt) 18 0 = g 18 0 := by rw [gs_c _ _ _ _ (by decide), gs_c _ _ _ _ (by decide)]
  exact W.vret hx hb hr (fun t ht hW => ⟨⟨(gs (gs g 9 0 p1.toInt) 14 0 x1.toInt), rfl, ⟨(fun c j h9 h14 => by rw [gs_c _ _ _ _ h14, gs_c _ _ _ _ h9]), (by omega), (pz_mk (show (gs (gs g 9 0 p1.toInt) 14 0 x1.toInt) 16 0 = g 16 0 by omega) (show (gs (gs g 9 0 p1.toInt) 14 0 x1.toInt) 17 0 = g 17 0 by omega) (show (gs (gs g 9 0 p1.toInt) 14 0 x1.toInt) 15 0 = g 15 0 by omega) (show (gs (gs g 9 0 p1.toInt) 14 0 x1.toInt) 18 0 = g 18 0 by omega) (show (gs (gs g 9 0 p1.toInt) 14 0 x1.toInt) 9 0 = p1.toInt by omega) (show (gs (gs g 9 0 p1.toInt) 14 0 x1.toInt) 14 0 = g 17 0 by omega))⟩, ok1 ht hG⟩, hS.F ht⟩) hS.2.2 dX4_blame_13

set_option maxHeartbeats 4000000 in
set_option maxRecDepth 100000 in
/-- WeekBank$Reader.expectNumber:  -/
theorem k_X4_expectNumber (l : Launch) (dC : Nat → ClassId) (dI : Nat → Nat → Nat) (dA : Nat → ClassId) (sz : Nat) (X : va_W) (Γ : ty_G) (hU : Un Γ) (g : gh) (h0 : Nat) (t_h0 : ty Γ h0 7) (p1 : Int32) (p2 : Int32) (T : Nat → Int) (N9 : Nat) (hp : 0 ≤ g 17 0 ∧ g 17 0 ≤ g 16 0 ∧ g 16 0 ≤ g 6 0 ∧ g 6 0 ≤ 300) (hT : g 19 = T) (hN : g 6 0 = (N9 : Int)) : Met l yX4_expectNumber (.code yX4_expectNumber cX4_expectNumber 4 (Option.some Jvm.ClassFile.FieldType.int) :: AL) ({ frames := 3, cells := 0, slots := 0, locals := 60 }) (PCx dC dI dA sz X Γ g [.ref h0, .int p1, .int p2]) (va_Qi (fun (r : Int32) (u : gh) => (∀ c j : Nat, c ≠ 9 → c ≠ 14 → c ≠ 15 → c ≠ 16 → c ≠ 17 → c ≠ 18 → u c j = g c j) ∧ ((0 ≤ u 17 0 ∧ u 17 0 ≤ u 16 0 ∧ u 16 0 ≤ g 6 0)) ∧ (pz_c u = (pz_N T N9 p1.toInt p2.toInt (pz_c g)).1 ∧ r.toInt = (pz_N T N9 p1.toInt p2.toInt (pz_c g)).2)) (okb dC dI dA sz X Γ) (ty_A sz)) 0 0 (ty_A sz) := by
  refine Met.ofW (cc := cX4_expectNumber) (maxL := 4) (ret := (Option.some Jvm.ClassFile.FieldType.int)) (by decide) rfl ?_
  intro p e s m args below meth c s₁ B hml hv
  obtain ⟨rfl, hG, hE⟩ := hv
  have hx := B.exec
  have hb := B.bytes
  have hr := B.returns
  have hts := atoms_spec B.pre
  have hA : ∀ w ∈ AL, w.before _ s = true := fun w h => hts w (List.mem_cons_of_mem _ h)
  have hown : s.vm.findClass RX4 = some m.cls := findClass_of_methodNamed B.named
  have hlocks := B.notSynchronized
  have hS : va_S (ty_A sz) s.heap s.heap [] := va_S.rf
  have hl := lv_entry ([.ref h0, .int p1, .int p2]) (n := 4) (Nat.le_of_ble_eq_true rfl)
  rw [lg_entry_eq]
  generalize (lg_sl ([.ref h0, .int p1, .int p2]) ++ List.replicate (4 - (lg_sl ([.ref h0, .int p1, .int p2])).length) Slot.unset).toArray = ls at hl ⊢
  have hl : lv_has ls 4 [(0, .ref h0), (1, .int p1), (2, .int p2)] := hl
  refine lv_aload_n hx hb dX4_expectNumber_0 rfl (lv_at hl 0 rfl) ?_
  refine get_X4_2 hx hb hA hown hE hG t_h0 wd_1_45 dX4_expectNumber_1 (fun x1 h2 => ?_)
  refine ty_if_eq (tgt := 9) hx hb dX4_expectNumber_4 (by decide) (fun c4 => ?_) (fun c4 => ?_)
  · skip
    refine lv_aload_n hx hb dX4_expectNumber_9 rfl (lv_at hl 0 rfl) ?_
    refine get_X4_5 hx hb hA hown hE hG t_h0 wd_1_50 dX4_expectNumber_10 (fun x5 h6 => ?_)
    refine ty_iconst hx hb (2) dX4_expectNumber_13 (by decide) (fun x8 h9 => ?_)
    refine ty_icmp_eq (tgt := 24) hx hb dX4_expectNumber_14 (by decide) (fun c10 => ?_) (fun c10 => ?_)
    · skip
      refine lv_aload_n hx hb dX4_expectNumber_24 rfl (lv_at hl 0 rfl) ?_
      refine get_X4_7 hx hb hA hown hE hG t_h0 wd_1_52 dX4_expectNumber_25 (fun x11 h12 => ?_)
      refine lv_istore_n (lv' := [(3, .int x11), (0, .ref h0), (1, .int p1), (2, .int p2)]) hx hb dX4_expectNumber_28 rfl hl (by decide) rfl (fun ls hl => ?_)
      refine lv_iload_n hx hb dX4_expectNumber_29 rfl (lv_at hl 0 rfl) ?_
      refine lv_iload_n hx hb dX4_expectNumber_30 rfl (lv_at hl 2 rfl) ?_
      refine ty_icmp_lt (tgt := 39) hx hb dX4_expectNumber_31 (by decide) (fun c14 => ?_) (fun c14 => ?_)
      · skip
        refine lv_aload_n hx hb dX4_expectNumber_39 rfl (lv_at hl 1 rfl) ?_
        refine ty_iconst hx hb (2) dX4_expectNumber_40 (by decide) (fun x15 h16 => ?_)
        refine cV (va_runV (C := RX4) (As := [.int x15]) (rest := []) ⟨hx, hb, hml, hown, hA⟩ (k_X4_blame l dC dI dA sz X Γ hU g h0 t_h0 x15   ) ⟨callB_of 1 hA (al_A wd_2_185) rfl rfl rfl (hA _ wd_1_2) (hA _ wd_2_182) (by decide +kernel) ⟨Nat.le_of_ble_eq_true rfl, Nat.le_of_ble_eq_true rfl⟩, hA _ wd_2_184, hA _ ws_9⟩ ⟨bl, recv_X4 hE hG t_h0, fun U hU9 hW9 => ⟨rfl, by rw [hU9]; exact hG, hE.go hS hU9 hW9⟩⟩ rfl rfl hl.1 rfl (lv_room (Nat.le_of_ble_eq_true rfl)) dX4_expectNumber_41 ⟨Nat.zero_le _, Nat.zero_le _⟩) hS (fun u17 H locs w18 hG hS => ?_)
        obtain ⟨hf20, w18, hq19⟩ := w18
        refine ty_iconst hx hb (0) dX4_expectNumber_44 (by decide) (fun x21 h22 => ?_)
        have hk23 : u17 16 0 = g 16 0 := hf20 16 0 (by decide) (by decide)
        have hk24 : u17 17 0 = g 17 0 := hf20 17 0 (by decide) (by decide)
        exact W.iret (v := x21) hx hb hr (fun t ht hW => ⟨⟨x21, u17, rfl, ⟨(fun c j h9 h14 h15 h16 h17 h18 => by rw [hf20 c j h9 h14]), (by omega), (by rw [pz_N3 (x := pz_c g) (show g 9 0 = 0 by omega) (show g 15 0 = 2 by omega) (show g 18 0 < p1.toInt ∨ p2.toInt < g 18 0 by omega)]; refine ⟨?_, show x21.toInt = 0 by omega⟩; rw [hq19, show x15.toInt = 2 by omega])⟩, ok1 ht hG⟩, hS.F ht⟩) hS.2.2 dX4_expectNumber_45
      · skip
        refine lv_iload_n hx hb dX4_expectNumber_34 rfl (lv_at hl 0 rfl) ?_
        refine lv_iload_n hx hb dX4_expectNumber_35 rfl (lv_at hl 3 rfl) ?_
        refine ty_icmp_le (tgt := 46) hx hb dX4_expectNumber_36 (by decide) (fun c25 => ?_) (fun c25 => ?_)
        · skip
          refine lv_aload_n hx hb dX4_expectNumber_46 rfl (lv_at hl 1 rfl) ?_
          refine cV (va_runV (C := RX4) (As := []) (rest := []) ⟨hx, hb, hml, hown, hA⟩ (k_X4_readToken l dC dI dA sz X Γ hU g h0 t_h0 T N9  (by omega) (hT) (by omega)) ⟨callB_of 0 hA (al_A wd_2_100) rfl rfl rfl (hA _ wd_1_2) (hA _ wd_2_97) (by decide +kernel) ⟨Nat.le_of_ble_eq_true rfl, Nat.le_of_ble_eq_true rfl⟩, hA _ wd_2_99, hA _ ws_3⟩ ⟨bl, recv_X4 hE hG t_h0, fun U hU9 hW9 => ⟨rfl, by rw [hU9]; exact hG, hE.go hS hU9 hW9⟩⟩ rfl rfl hl.1 rfl (lv_room (Nat.le_of_ble_eq_true rfl)) dX4_expectNumber_47 ⟨Nat.zero_le _, Nat.zero_le _⟩) hS (fun u26 H locs w27 hG hS => ?_)
          obtain ⟨hf29, w27, hq28⟩ := w27
          refine lv_iload_n hx hb dX4_expectNumber_50 rfl (lv_at hl 0 rfl) ?_
          exact W.iret (v := x11) hx hb hr (fun t ht hW => ⟨⟨x11, u26, rfl, ⟨(fun c j h9 h14 h15 h16 h17 h18 => by rw [hf29 c j h15 h16 h17 h18]), (by omega), (by rw [pz_N4 (x := pz_c g) (show g 9 0 = 0 by omega) (show g 15 0 = 2 by omega) (show ¬ (g 18 0 < p1.toInt ∨ p2.toInt < g 18 0) by omega)]; exact ⟨hq28, show x11.toInt = g 18 0 by omega⟩)⟩, ok1 ht hG⟩, hS.F ht⟩) hS.2.2 dX4_expectNumber_51
        · skip
          refine lv_aload_n hx hb dX4_expectNumber_39 rfl (lv_at hl 1 rfl) ?_
          refine ty_iconst hx hb (2) dX4_expectNumber_40 (by decide) (fun x30 h31 => ?_)
          refine cV (va_runV (C := RX4) (As := [.int x30]) (rest := []) ⟨hx, hb, hml, hown, hA⟩ (k_X4_blame l dC dI dA sz X Γ hU g h0 t_h0 x30   ) ⟨callB_of 1 hA (al_A wd_2_185) rfl rfl rfl (hA _ wd_1_2) (hA _ wd_2_182) (by decide +kernel) ⟨Nat.le_of_ble_eq_true rfl, Nat.le_of_ble_eq_true rfl⟩, hA _ wd_2_184, hA _ ws_9⟩ ⟨bl, recv_X4 hE hG t_h0, fun U hU9 hW9 => ⟨rfl, by rw [hU9]; exact hG, hE.go hS hU9 hW9⟩⟩ rfl rfl hl.1 rfl (lv_room (Nat.le_of_ble_eq_true rfl)) dX4_expectNumber_41 ⟨Nat.zero_le _, Nat.zero_le _⟩) hS (fun u32 H locs w33 hG hS => ?_)
          obtain ⟨hf35, w33, hq34⟩ := w33
          refine ty_iconst hx hb (0) dX4_expectNumber_44 (by decide) (fun x36 h37 => ?_)
          have hk38 : u32 16 0 = g 16 0 := hf35 16 0 (by decide) (by decide)
          have hk39 : u32 17 0 = g 17 0 := hf35 17 0 (by decide) (by decide)
          exact W.iret (v := x36) hx hb hr (fun t ht hW => ⟨⟨x36, u32, rfl, ⟨(fun c j h9 h14 h15 h16 h17 h18 => by rw [hf35 c j h9 h14]), (by omega), (by rw [pz_N3 (x := pz_c g) (show g 9 0 = 0 by omega) (show g 15 0 = 2 by omega) (show g 18 0 < p1.toInt ∨ p2.toInt < g 18 0 by omega)]; refine ⟨?_, show x36.toInt = 0 by omega⟩; rw [hq34, show x30.toInt = 2 by omega])⟩, ok1 ht hG⟩, hS.F ht⟩) hS.2.2 dX4_expectNumber_45
    · skip
      refine lv_aload_n hx hb dX4_expectNumber_17 rfl (lv_at hl 0 rfl) ?_
      refine ty_iconst hx hb (1) dX4_expectNumber_18 (by decide) (fun x40 h41 => ?_)
      refine cV (va_runV (C := RX4) (As := [.int x40]) (rest := []) ⟨hx, hb, hml, hown, hA⟩ (k_X4_blame l dC dI dA sz X Γ hU g h0 t_h0 x40   ) ⟨callB_of 1 hA (al_A wd_2_185) rfl rfl rfl (hA _ wd_1_2) (hA _ wd_2_182) (by decide +kernel) ⟨Nat.le_of_ble_eq_true rfl, Nat.le_of_ble_eq_true rfl⟩, hA _ wd_2_184, hA _ ws_9⟩ ⟨bl, recv_X4 hE hG t_h0, fun U hU9 hW9 => ⟨rfl, by rw [hU9]; exact hG, hE.go hS hU9 hW9⟩⟩ rfl rfl hl.1 rfl (lv_room (Nat.le_of_ble_eq_true rfl)) dX4_expectNumber_19 ⟨Nat.zero_le _, Nat.zero_le _⟩) hS (fun u42 H locs w43 hG hS => ?_)
      obtain ⟨hf45, w43, hq44⟩ := w43
      refine ty_iconst hx hb (0) dX4_expectNumber_22 (by decide) (fun x46 h47 => ?_)
      have hk48 : u42 16 0 = g 16 0 := hf45 16 0 (by decide) (by decide)
      have hk49 : u42 17 0 = g 17 0 := hf45 17 0 (by decide) (by decide)
      exact W.iret (v := x46) hx hb hr (fun t ht hW => ⟨⟨x46, u42, rfl, ⟨(fun c j h9 h14 h15 h16 h17 h18 => by rw [hf45 c j h9 h14]), (by omega), (by rw [pz_N2 (x := pz_c g) (show g 9 0 = 0 by omega) (show g 15 0 ≠ 2 by omega)]; refine ⟨?_, show x46.toInt = 0 by omega⟩; rw [hq44, show x40.toInt = 1 by omega])⟩, ok1 ht hG⟩, hS.F ht⟩) hS.2.2 dX4_expectNumber_23
  · skip
    refine ty_iconst hx hb (0) dX4_expectNumber_7 (by decide) (fun x50 h51 => ?_)
    exact W.iret (v := x50) hx hb hr (fun t ht hW => ⟨⟨x50, g, rfl, ⟨(fun c j h9 h14 h15 h16 h17 h18 => by rfl), (by omega), (by rw [pz_N1 (x := pz_c g) (show g 9 0 ≠ 0 by omega)]; exact ⟨rfl, show x50.toInt = 0 by omega⟩)⟩, ok1 ht hG⟩, hS.F ht⟩) hS.2.2 dX4_expectNumber_8

set_option maxHeartbeats 4000000 in
set_option maxRecDepth 100000 in
/-- WeekBank$Reader.expectBound:  -/
theorem k_X4_expectBound (l : Launch) (dC : Nat → ClassId) (dI : Nat → Nat → Nat) (dA : Nat → ClassId) (sz : Nat) (X : va_W) (Γ : ty_G) (hU : Un Γ) (g : gh) (h0 : Nat) (t_h0 : ty Γ h0 7) (T : Nat → Int) (N9 : Nat) (hp : 0 ≤ g 17 0 ∧ g 17 0 ≤ g 16 0 ∧ g 16 0 ≤ g 6 0 ∧ g 6 0 ≤ 300) (hT : g 19 = T) (hN : g 6 0 = (N9 : Int)) : Met l yX4_expectBound (.code yX4_expectBound cX4_expectBound 2 (Option.some Jvm.ClassFile.FieldType.boolean) :: AL) ({ frames := 5, cells := 0, slots := 0, locals := 107 }) (PCx dC dI dA sz X Γ g [.ref h0]) (va_Qi (fun (r : Int32) (u : gh) => (∀ c j : Nat, c ≠ 9 → c ≠ 14 → c ≠ 15 → c ≠ 16 → c ≠ 17 → c ≠ 18 → u c j = g c j) ∧ ((0 ≤ u 17 0 ∧ u 17 0 ≤ u 16 0 ∧ u 16 0 ≤ g 6 0) ∧ (r.toInt = 0 ∨ r.toInt = 1)) ∧ (pz_c u = (pz_B T N9 (pz_c g)).1 ∧ r.toInt = (pz_B T N9 (pz_c g)).2)) (okb dC dI dA sz X Γ) (ty_A sz)) 0 0 (ty_A sz) := by
  refine Met.ofW (cc := cX4_expectBound) (maxL := 2) (ret := (Option.some Jvm.ClassFile.FieldType.boolean)) (by decide) rfl ?_
  intro p e s m args below meth c s₁ B hml hv
  obtain ⟨rfl, hG, hE⟩ := hv
  have hx := B.exec
  have hb := B.bytes
  have hr := B.returns
  have hts := atoms_spec B.pre
  have hA : ∀ w ∈ AL, w.before _ s = true := fun w h => hts w (List.mem_cons_of_mem _ h)
  have hown : s.vm.findClass RX4 = some m.cls := findClass_of_methodNamed B.named
  have hlocks := B.notSynchronized
  have hS : va_S (ty_A sz) s.heap s.heap [] := va_S.rf
  have hES := hE.2.1.2.2.2.2.2.2
  have hl := lv_entry ([.ref h0]) (n := 2) (Nat.le_of_ble_eq_true rfl)
  rw [lg_entry_eq]
  generalize (lg_sl ([.ref h0]) ++ List.replicate (2 - (lg_sl ([.ref h0])).length) Slot.unset).toArray = ls at hl ⊢
  have hl : lv_has ls 2 [(0, .ref h0)] := hl
  refine lv_aload_n hx hb dX4_expectBound_0 rfl (lv_at hl 0 rfl) ?_
  refine va_ldcS hx hb hown (hES.1 4 (by decide)).1 dX4_expectBound_1 ?_
  refine cI (va_runV (C := RX4) (As := [.ref (dI 100 4)]) (rest := []) ⟨hx, hb, hml, hown, hA⟩ (k_X4_isWord l dC dI dA sz X Γ hU g h0 t_h0 4 (by decide) T N9  (by omega) (hT) (by omega)) ⟨callB_of 1 hA (al_A wd_2_130) rfl rfl rfl (hA _ wd_1_2) (hA _ wd_2_127) (by decide +kernel) ⟨Nat.le_of_ble_eq_true rfl, Nat.le_of_ble_eq_true rfl⟩, hA _ wd_2_129, hA _ ws_8⟩ ⟨bl, recv_X4 hE hG t_h0, fun U hU9 hW9 => ⟨rfl, by rw [hU9]; exact hG, hE.go hS hU9 hW9⟩⟩ rfl rfl hl.1 rfl (lv_room (Nat.le_of_ble_eq_true rfl)) dX4_expectBound_3 ⟨Nat.zero_le _, Nat.zero_le _⟩) hS (fun x3 u1 H locs w2 hG hS => ?_)
  obtain ⟨eu5, w2, hq4⟩ := w2
  rw [eu5] at hG
  refine lv_istore_n (lv' := [(1, .int x3), (0, .ref h0)]) hx hb dX4_expectBound_6 rfl hl (by decide) rfl (fun ls hl => ?_)
  refine lv_iload_n hx hb dX4_expectBound_7 rfl (lv_at hl 0 rfl) ?_
  refine ty_if_ne (tgt := 27) hx hb dX4_expectBound_8 (by decide) (fun c6 => ?_) (fun c6 => ?_)
  · skip
    refine lv_aload_n hx hb dX4_expectBound_27 rfl (lv_at hl 1 rfl) ?_
    refine cV (va_runV (C := RX4) (As := []) (rest := []) ⟨hx, hb, hml, hown, hA⟩ (k_X4_readToken l dC dI dA sz X Γ hU g h0 t_h0 T N9  (by omega) (hT) (by omega)) ⟨callB_of 0 hA (al_A wd_2_100) rfl rfl rfl (hA _ wd_1_2) (hA _ wd_2_97) (by decide +kernel) ⟨Nat.le_of_ble_eq_true rfl, Nat.le_of_ble_eq_true rfl⟩, hA _ wd_2_99, hA _ ws_3⟩ ⟨bl, recv_X4 hE hG t_h0, fun U hU9 hW9 => ⟨rfl, by rw [hU9]; exact hG, hE.go hS hU9 hW9⟩⟩ rfl rfl hl.1 rfl (lv_room (Nat.le_of_ble_eq_true rfl)) dX4_expectBound_28 ⟨Nat.zero_le _, Nat.zero_le _⟩) hS (fun u7 H locs w8 hG hS => ?_)
    obtain ⟨hf10, w8, hq9⟩ := w8
    refine lv_iload_n hx hb dX4_expectBound_31 rfl (lv_at hl 0 rfl) ?_
    exact W.zret (v := x3) hx hb hr (ty_nb (by omega)).1 (fun t ht hW => ⟨⟨x3, u7, rfl, ⟨(fun c j h9 h14 h15 h16 h17 h18 => by rw [hf10 c j h15 h16 h17 h18]), (by omega), (by rw [pz_B1 (x := pz_c g) (hq4.trans (decide_eq_true (by omega)))]; exact ⟨hq9, show x3.toInt = 1 by omega⟩)⟩, ok1 ht hG⟩, hS.F ht⟩) hS.2.2 dX4_expectBound_32
  · skip
    refine lv_aload_n hx hb dX4_expectBound_11 rfl (lv_at hl 1 rfl) ?_
    refine va_ldcS hx hb hown (hES.1 5 (by decide)).1 dX4_expectBound_12 ?_
    refine cI (va_runV (C := RX4) (As := [.ref (dI 100 5)]) (rest := []) ⟨hx, hb, hml, hown, hA⟩ (k_X4_isWord l dC dI dA sz X Γ hU g h0 t_h0 5 (by decide) T N9  (by omega) (hT) (by omega)) ⟨callB_of 1 hA (al_A wd_2_130) rfl rfl rfl (hA _ wd_1_2) (hA _ wd_2_127) (by decide +kernel) ⟨Nat.le_of_ble_eq_true rfl, Nat.le_of_ble_eq_true rfl⟩, hA _ wd_2_129, hA _ ws_8⟩ ⟨bl, recv_X4 hE hG t_h0, fun U hU9 hW9 => ⟨rfl, by rw [hU9]; exact hG, hE.go hS hU9 hW9⟩⟩ rfl rfl hl.1 rfl (lv_room (Nat.le_of_ble_eq_true rfl)) dX4_expectBound_14 ⟨Nat.zero_le _, Nat.zero_le _⟩) hS (fun x13 u11 H locs w12 hG hS => ?_)
    obtain ⟨eu15, w12, hq14⟩ := w12
    rw [eu15] at hG
    refine ty_if_ne (tgt := 27) hx hb dX4_expectBound_17 (by decide) (fun c16 => ?_) (fun c16 => ?_)
    · skip
      refine lv_aload_n hx hb dX4_expectBound_27 rfl (lv_at hl 1 rfl) ?_
      refine cV (va_runV (C := RX4) (As := []) (rest := []) ⟨hx, hb, hml, hown, hA⟩ (k_X4_readToken l dC dI dA sz X Γ hU g h0 t_h0 T N9  (by omega) (hT) (by omega)) ⟨callB_of 0 hA (al_A wd_2_100) rfl rfl rfl (hA _ wd_1_2) (hA _ wd_2_97) (by decide +kernel) ⟨Nat.le_of_ble_eq_true rfl, Nat.le_of_ble_eq_true rfl⟩, hA _ wd_2_99, hA _ ws_3⟩ ⟨bl, recv_X4 hE hG t_h0, fun U hU9 hW9 => ⟨rfl, by rw [hU9]; exact hG, hE.go hS hU9 hW9⟩⟩ rfl rfl hl.1 rfl (lv_room (Nat.le_of_ble_eq_true rfl)) dX4_expectBound_28 ⟨Nat.zero_le _, Nat.zero_le _⟩) hS (fun u17 H locs w18 hG hS => ?_)
      obtain ⟨hf20, w18, hq19⟩ := w18
      refine lv_iload_n hx hb dX4_expectBound_31 rfl (lv_at hl 0 rfl) ?_
      exact W.zret (v := x3) hx hb hr (ty_nb (by omega)).1 (fun t ht hW => ⟨⟨x3, u17, rfl, ⟨(fun c j h9 h14 h15 h16 h17 h18 => by rw [hf20 c j h15 h16 h17 h18]), (by omega), (by rw [pz_B2 (x := pz_c g) (hq4.trans (decide_eq_false (by omega))) (hq14.trans (decide_eq_true (by omega)))]; exact ⟨hq19, show x3.toInt = 0 by omega⟩)⟩, ok1 ht hG⟩, hS.F ht⟩) hS.2.2 dX4_expectBound_32
    · skip
      refine lv_aload_n hx hb dX4_expectBound_20 rfl (lv_at hl 1 rfl) ?_
      refine ty_iconst hx hb (1) dX4_expectBound_21 (by decide) (fun x21 h22 => ?_)
      refine cV (va_runV (C := RX4) (As := [.int x21]) (rest := []) ⟨hx, hb, hml, hown, hA⟩ (k_X4_blame l dC dI dA sz X Γ hU g h0 t_h0 x21   ) ⟨callB_of 1 hA (al_A wd_2_185) rfl rfl rfl (hA _ wd_1_2) (hA _ wd_2_182) (by decide +kernel) ⟨Nat.le_of_ble_eq_true rfl, Nat.le_of_ble_eq_true rfl⟩, hA _ wd_2_184, hA _ ws_9⟩ ⟨bl, recv_X4 hE hG t_h0, fun U hU9 hW9 => ⟨rfl, by rw [hU9]; exact hG, hE.go hS hU9 hW9⟩⟩ rfl rfl hl.1 rfl (lv_room (Nat.le_of_ble_eq_true rfl)) dX4_expectBound_22 ⟨Nat.zero_le _, Nat.zero_le _⟩) hS (fun u23 H locs w24 hG hS => ?_)
      obtain ⟨hf26, w24, hq25⟩ := w24
      refine ty_iconst hx hb (0) dX4_expectBound_25 (by decide) (fun x27 h28 => ?_)
      have hk29 : u23 16 0 = g 16 0 := hf26 16 0 (by decide) (by decide)
      have hk30 : u23 17 0 = g 17 0 := hf26 17 0 (by decide) (by decide)
      exact W.zret (v := x27) hx hb hr (ty_nb (by omega)).1 (fun t ht hW => ⟨⟨x27, u23, rfl, ⟨(fun c j h9 h14 h15 h16 h17 h18 => by rw [hf26 c j h9 h14]), (by omega), (by rw [pz_B3 (x := pz_c g) (hq4.trans (decide_eq_false (by omega))) (hq14.trans (decide_eq_false (by omega)))]; refine ⟨?_, show x27.toInt = 0 by omega⟩; rw [hq25, show x21.toInt = 1 by omega])⟩, ok1 ht hG⟩, hS.F ht⟩) hS.2.2 dX4_expectBound_26

set_option maxHeartbeats 4000000 in
set_option maxRecDepth 100000 in
/-- WeekBank$Reader.expectSign:  -/
theorem k_X4_expectSign (l : Launch) (dC : Nat → ClassId) (dI : Nat → Nat → Nat) (dA : Nat → ClassId) (sz : Nat) (X : va_W) (Γ : ty_G) (hU : Un Γ) (g : gh) (h0 : Nat) (t_h0 : ty Γ h0 7) (T : Nat → Int) (N9 : Nat) (hp : 0 ≤ g 17 0 ∧ g 17 0 ≤ g 16 0 ∧ g 16 0 ≤ g 6 0 ∧ g 6 0 ≤ 300) (hT : g 19 = T) (hN : g 6 0 = (N9 : Int)) : Met l yX4_expectSign (.code yX4_expectSign cX4_expectSign 1 (Option.none : Option Jvm.ClassFile.FieldType) :: AL) ({ frames := 3, cells := 0, slots := 0, locals := 60 }) (PCx dC dI dA sz X Γ g [.ref h0]) (va_Qv (fun (u : gh) => (∀ c j : Nat, c ≠ 9 → c ≠ 14 → c ≠ 15 → c ≠ 16 → c ≠ 17 → c ≠ 18 → u c j = g c j) ∧ ((0 ≤ u 17 0 ∧ u 17 0 ≤ u 16 0 ∧ u 16 0 ≤ g 6 0)) ∧ (pz_c u = pz_G T N9 (pz_c g))) (okb dC dI dA sz X Γ) (ty_A sz)) 0 0 (ty_A sz) := by
  refine Met.ofW (cc := cX4_expectSign) (maxL := 1) (ret := (Option.none : Option Jvm.ClassFile.FieldType)) (by decide) rfl ?_
  intro p e s m args below meth c s₁ B hml hv
  obtain ⟨rfl, hG, hE⟩ := hv
  have hx := B.exec
  have hb := B.bytes
  have hr := B.returns
  have hts := atoms_spec B.pre
  have hA : ∀ w ∈ AL, w.before _ s = true := fun w h => hts w (List.mem_cons_of_mem _ h)
  have hown : s.vm.findClass RX4 = some m.cls := findClass_of_methodNamed B.named
  have hlocks := B.notSynchronized
  have hS : va_S (ty_A sz) s.heap s.heap [] := va_S.rf
  have hl := lv_entry ([.ref h0]) (n := 1) (Nat.le_of_ble_eq_true rfl)
  rw [lg_entry_eq]
  generalize (lg_sl ([.ref h0]) ++ List.replicate (1 - (lg_sl ([.ref h0])).length) Slot.unset).toArray = ls at hl ⊢
  have hl : lv_has ls 1 [(0, .ref h0)] := hl
  refine lv_aload_n hx hb dX4_expectSign_0 rfl (lv_at hl 0 rfl) ?_
  refine get_X4_2 hx hb hA hown hE hG t_h0 wd_1_45 dX4_expectSign_1 (fun x1 h2 => ?_)
  refine ty_if_eq (tgt := 8) hx hb dX4_expectSign_4 (by decide) (fun c4 => ?_) (fun c4 => ?_)
  · skip
    refine lv_aload_n hx hb dX4_expectSign_8 rfl (lv_at hl 0 rfl) ?_
    refine get_X4_5 hx hb hA hown hE hG t_h0 wd_1_50 dX4_expectSign_9 (fun x5 h6 => ?_)
    refine ty_iconst hx hb (3) dX4_expectSign_12 (by decide) (fun x8 h9 => ?_)
    refine ty_icmp_eq (tgt := 22) hx hb dX4_expectSign_13 (by decide) (fun c10 => ?_) (fun c10 => ?_)
    · skip
      refine lv_aload_n hx hb dX4_expectSign_22 rfl (lv_at hl 0 rfl) ?_
      refine cV (va_runV (C := RX4) (As := []) (rest := []) ⟨hx, hb, hml, hown, hA⟩ (k_X4_readToken l dC dI dA sz X Γ hU g h0 t_h0 T N9  (by omega) (hT) (by omega)) ⟨callB_of 0 hA (al_A wd_2_100) rfl rfl rfl (hA _ wd_1_2) (hA _ wd_2_97) (by decide +kernel) ⟨Nat.le_of_ble_eq_true rfl, Nat.le_of_ble_eq_true rfl⟩, hA _ wd_2_99, hA _ ws_3⟩ ⟨bl, recv_X4 hE hG t_h0, fun U hU9 hW9 => ⟨rfl, by rw [hU9]; exact hG, hE.go hS hU9 hW9⟩⟩ rfl rfl hl.1 rfl (lv_room (Nat.le_of_ble_eq_true rfl)) dX4_expectSign_23 ⟨Nat.zero_le _, Nat.zero_le _⟩) hS (fun u11 H locs w12 hG hS => ?_)
      obtain ⟨hf14, w12, hq13⟩ := w12
      exact W.vret hx hb hr (fun t ht hW => ⟨⟨u11, rfl, ⟨(fun c j h9 h14 h15 h16 h17 h18 => by rw [hf14 c j h15 h16 h17 h18]), (by omega), (by rw [pz_G3 (x := pz_c g) (show g 9 0 = 0 by omega) (show g 15 0 = 3 by omega)]; exact hq13)⟩, ok1 ht hG⟩, hS.F ht⟩) hS.2.2 dX4_expectSign_26
    · skip
      refine lv_aload_n hx hb dX4_expectSign_16 rfl (lv_at hl 0 rfl) ?_
      refine ty_iconst hx hb (1) dX4_expectSign_17 (by decide) (fun x15 h16 => ?_)
      refine cV (va_runV (C := RX4) (As := [.int x15]) (rest := []) ⟨hx, hb, hml, hown, hA⟩ (k_X4_blame l dC dI dA sz X Γ hU g h0 t_h0 x15   ) ⟨callB_of 1 hA (al_A wd_2_185) rfl rfl rfl (hA _ wd_1_2) (hA _ wd_2_182) (by decide +kernel) ⟨Nat.le_of_ble_eq_true rfl, Nat.le_of_ble_eq_true rfl⟩, hA _ wd_2_184, hA _ ws_9⟩ ⟨bl, recv_X4 hE hG t_h0, fun U hU9 hW9 => ⟨rfl, by rw [hU9]; exact hG, hE.go hS hU9 hW9⟩⟩ rfl rfl hl.1 rfl (lv_room (Nat.le_of_ble_eq_true rfl)) dX4_expectSign_18 ⟨Nat.zero_le _, Nat.zero_le _⟩) hS (fun u17 H locs w18 hG hS => ?_)
      obtain ⟨hf20, w18, hq19⟩ := w18
      have hk21 : u17 16 0 = g 16 0 := hf20 16 0 (by decide) (by decide)
      have hk22 : u17 17 0 = g 17 0 := hf20 17 0 (by decide) (by decide)
      exact W.vret hx hb hr (fun t ht hW => ⟨⟨u17, rfl, ⟨(fun c j h9 h14 h15 h16 h17 h18 => by rw [hf20 c j h9 h14]), (by omega), (by rw [pz_G2 (x := pz_c g) (show g 9 0 = 0 by omega) (show g 15 0 ≠ 3 by omega), hq19, show x15.toInt = 1 by omega])⟩, ok1 ht hG⟩, hS.F ht⟩) hS.2.2 dX4_expectSign_21
  · skip
    exact W.vret hx hb hr (fun t ht hW => ⟨⟨g, rfl, ⟨(fun c j h9 h14 h15 h16 h17 h18 => by rfl), (by omega), (by rw [pz_G1 (x := pz_c g) (show g 9 0 ≠ 0 by omega)])⟩, ok1 ht hG⟩, hS.F ht⟩) hS.2.2 dX4_expectSign_7
