set_option maxHeartbeats 4000000 in
set_option maxRecDepth 100000 in
/-- WeekBank$Reader.readRest:  -/
theorem k_X4_readRest (l : Launch) (dC : Nat → ClassId) (dI : Nat → Nat → Nat) (dA : Nat → ClassId) (sz : Nat) (X : va_W) (Γ : ty_G) (hU : Un Γ) (g : gh) (h0 : Nat) (t_h0 : ty Γ h0 7) (p1 ii : Nat) (t_p1 : Γ p1 = (6, ii)) (p2 : Int32) (hp : 0 ≤ g 17 0 ∧ g 17 0 ≤ g 16 0 ∧ g 16 0 ≤ g 6 0 ∧ g 6 0 ≤ 300) : Met l yX4_readRest (.code yX4_readRest cX4_readRest 7 (Option.none : Option Jvm.ClassFile.FieldType) :: AL) ({ frames := 6, cells := 0, slots := 0, locals := 128 }) (PCx dC dI dA sz X Γ g [.ref h0, .ref p1, .int p2]) (va_Qv (fun (u : gh) => (∀ c j : Nat, c ≠ 9 → c ≠ 11 → c ≠ 14 → c ≠ 15 → c ≠ 16 → c ≠ 17 → c ≠ 18 → u c j = g c j) ∧ ((0 ≤ u 17 0 ∧ u 17 0 ≤ u 16 0 ∧ u 16 0 ≤ g 6 0))) (okb dC dI dA sz X Γ) (ty_A sz)) 0 0 (ty_A sz) := by
  refine Met.ofW (cc := cX4_readRest) (maxL := 7) (ret := (Option.none : Option Jvm.ClassFile.FieldType)) (by decide) rfl ?_
  intro p e s m args below meth c s₁ B hml hv
  obtain ⟨rfl, hG, hE⟩ := hv
  have hx := B.exec
  have hb := B.bytes
  have hr := B.returns
  have hts := atoms_spec B.pre
  have hA : ∀ w ∈ AL, w.before _ s = true := fun w h => hts w (List.mem_cons_of_mem _ h)
  have hown : s.vm.findClass RX4 = some m.cls := findClass_of_methodNamed B.named
  have hlocks := B.notSynchronized
  have hS : va_S (ty_A sz) s.heap s.heap [] := va_S.rf
  have hl := lv_entry ([.ref h0, .ref p1, .int p2]) (n := 7) (Nat.le_of_ble_eq_true rfl)
  rw [lg_entry_eq]
  generalize (lg_sl ([.ref h0, .ref p1, .int p2]) ++ List.replicate (7 - (lg_sl ([.ref h0, .ref p1, .int p2])).length) Slot.unset).toArray = ls at hl ⊢
  have hl : lv_has ls 7 [(0, .ref h0), (1, .ref p1), (2, .int p2)] := hl
  refine lv_iload_n hx hb dX4_readRest_0 rfl (lv_at hl 2 rfl) ?_
  by_cases c1 : p2.toInt < 1 ∨ 3 < p2.toInt
  · skip
    refine lv_tableOut (tgt := 114) hx hb dX4_readRest_1 c1 (by decide) ?_
    refine lv_aload_n hx hb dX4_readRest_114 rfl (lv_at hl 1 rfl) ?_
    refine lv_aload_n hx hb dX4_readRest_115 rfl (lv_at hl 0 rfl) ?_
    refine cI (va_runV (C := RX4) (As := []) (rest := [.ref p1]) ⟨hx, hb, hml, hown, hA⟩ (k_X4_expectBound l dC dI dA sz X Γ hU g h0 t_h0   (by omega)) ⟨callB_of 0 hA (al_A wd_2_214) rfl rfl rfl (hA _ wd_1_2) (hA _ wd_2_211) (by decide +kernel) ⟨Nat.le_of_ble_eq_true rfl, Nat.le_of_ble_eq_true rfl⟩, hA _ wd_2_213, hA _ ws_12⟩ ⟨bl, recv_X4 hE hG t_h0, fun U hU9 hW9 => ⟨rfl, by rw [hU9]; exact hG, hE.go hS hU9 hW9⟩⟩ rfl rfl hl.1 rfl (lv_room (Nat.le_of_ble_eq_true rfl)) dX4_readRest_116 ⟨Nat.zero_le _, Nat.zero_le _⟩) hS (fun x4 u2 H locs w3 hG hS => ?_)
    obtain ⟨hf5, w3⟩ := w3
    refine put_X6_3 hx hb hA hown hE hG hS hU t_p1 wd_1_84 (by omega) dX4_readRest_119 (fun H locs hG hS => ?_)
    have e6 : (gs u2 11 ii x4.toInt) 16 0 = u2 16 0 := by simp [gs]
    have e7 : (gs u2 11 ii x4.toInt) 17 0 = u2 17 0 := by simp [gs]
    exact W.vret hx hb hr (fun t ht hW => ⟨⟨(gs u2 11 ii x4.toInt), rfl, ⟨(fun c j h9 h11 h14 h15 h16 h17 h18 => by rw [gs_c _ _ _ _ h11, hf5 c j h9 h14 h15 h16 h17 h18]), (by omega)⟩, ok1 ht hG⟩, hS.F ht⟩) hS.2.2 dX4_readRest_122
  · skip
    rcases (show p2.toInt = 1 ∨ p2.toInt = 2 ∨ p2.toInt = 3 by omega) with q8 | q9 | q10
    · skip
      refine lv_tableIn (tgt := 28) (off := 27) hx hb dX4_readRest_1 (by omega) (by omega) (by rw [q8]; rfl) (by decide) ?_
      refine lv_aload_n hx hb dX4_readRest_28 rfl (lv_at hl 0 rfl) ?_
      refine ty_iconst hx hb (0) dX4_readRest_29 (by decide) (fun x11 h12 => ?_)
      refine ty_bipush hx hb (52) dX4_readRest_30 (by decide) (fun x13 h14 => ?_)
      refine cI (va_runV (C := RX4) (As := [.int x11, .int x13]) (rest := []) ⟨hx, hb, hml, hown, hA⟩ (k_X4_expectNumber l dC dI dA sz X Γ hU g h0 t_h0 x11 x13   (by omega)) ⟨callB_of 2 hA (al_A wd_2_193) rfl rfl rfl (hA _ wd_1_2) (hA _ wd_2_190) (by decide +kernel) ⟨Nat.le_of_ble_eq_true rfl, Nat.le_of_ble_eq_true rfl⟩, hA _ wd_2_192, hA _ ws_11⟩ ⟨bl, recv_X4 hE hG t_h0, fun U hU9 hW9 => ⟨rfl, by rw [hU9]; exact hG, hE.go hS hU9 hW9⟩⟩ rfl rfl hl.1 rfl (lv_room (Nat.le_of_ble_eq_true rfl)) dX4_readRest_32 ⟨Nat.zero_le _, Nat.zero_le _⟩) hS (fun x17 u15 H locs w16 hG hS => ?_)
      obtain ⟨hf18, w16⟩ := w16
      refine lv_istore_n (lv' := [(3, .int x17), (0, .ref h0), (1, .ref p1), (2, .int p2)]) hx hb dX4_readRest_35 rfl hl (by decide) rfl (fun ls hl => ?_)
      refine lv_aload_n hx hb dX4_readRest_36 rfl (lv_at hl 1 rfl) ?_
      refine lv_iload_n hx hb dX4_readRest_37 rfl (lv_at hl 0 rfl) ?_
      refine ty_bipush hx hb (52) dX4_readRest_38 (by decide) (fun x19 h20 => ?_)
      have hk21 : u15 6 0 = g 6 0 := hf18 6 0 (by decide) (by decide) (by decide) (by decide) (by decide) (by decide)
      refine cI (va_runV (C := RX4) (As := [.int x17, .int x19]) (rest := []) ⟨hx, hb, hml, hown, hA⟩ (k_X4_expectNumber l dC dI dA sz X Γ hU u15 h0 t_h0 x17 x19   (by omega)) ⟨callB_of 2 hA (al_A wd_2_193) rfl rfl rfl (hA _ wd_1_2) (hA _ wd_2_190) (by decide +kernel) ⟨Nat.le_of_ble_eq_true rfl, Nat.le_of_ble_eq_true rfl⟩, hA _ wd_2_192, hA _ ws_11⟩ ⟨bl, recv_X4 hE hG t_h0, fun U hU9 hW9 => ⟨rfl, by rw [hU9]; exact hG, hE.go hS hU9 hW9⟩⟩ rfl rfl hl.1 rfl (lv_room (Nat.le_of_ble_eq_true rfl)) dX4_readRest_40 ⟨Nat.zero_le _, Nat.zero_le _⟩) hS (fun x24 u22 H locs w23 hG hS => ?_)
      obtain ⟨hf25, w23⟩ := w23
      refine lv_istore (lv' := [(4, .int x24), (3, .int x17), (0, .ref h0), (1, .ref p1), (2, .int p2)]) hx hb dX4_readRest_43 hl (by decide) rfl (fun ls hl => ?_)
      refine lv_aload_n hx hb dX4_readRest_45 rfl (lv_at hl 3 rfl) ?_
      refine lv_iload_n hx hb dX4_readRest_46 rfl (lv_at hl 1 rfl) ?_
      refine lv_iload hx hb dX4_readRest_47 (lv_at hl 0 rfl) ?_
      refine lv_aload_n hx hb dX4_readRest_49 rfl (lv_at hl 2 rfl) ?_
      refine ty_iconst hx hb (0) dX4_readRest_50 (by decide) (fun x26 h27 => ?_)
      refine ty_sipush hx hb (9999) dX4_readRest_51 (by decide) (fun x28 h29 => ?_)
      have hk30 : u22 6 0 = u15 6 0 := hf25 6 0 (by decide) (by decide) (by decide) (by decide) (by decide) (by decide)
      refine cI (va_runV (C := RX4) (As := [.int x26, .int x28]) (rest := [.int x24, .int x17, .ref p1]) ⟨hx, hb, hml, hown, hA⟩ (k_X4_expectNumber l dC dI dA sz X Γ hU u22 h0 t_h0 x26 x28   (by omega)) ⟨callB_of 2 hA (al_A wd_2_193) rfl rfl rfl (hA _ wd_1_2) (hA _ wd_2_190) (by decide +kernel) ⟨Nat.le_of_ble_eq_true rfl, Nat.le_of_ble_eq_true rfl⟩, hA _ wd_2_192, hA _ ws_11⟩ ⟨bl, recv_X4 hE hG t_h0, fun U hU9 hW9 => ⟨rfl, by rw [hU9]; exact hG, hE.go hS hU9 hW9⟩⟩ rfl rfl hl.1 rfl (lv_room (Nat.le_of_ble_eq_true rfl)) dX4_readRest_54 ⟨Nat.zero_le _, Nat.zero_le _⟩) hS (fun x33 u31 H locs w32 hG hS => ?_)
      obtain ⟨hf34, w32⟩ := w32
      refine cV (va_runV (C := RX6) (As := [.int x17, .int x24, .int x33]) (rest := []) ⟨hx, hb, hml, hown, hA⟩ (k_X6_setSeason l dC dI dA sz X Γ hU u31 p1 ii t_p1 x17 x24 x33   ) ⟨callB_of 3 hA (al_A wd_2_197) rfl rfl rfl (hA _ wd_1_3) (hA _ wd_2_194) (by decide +kernel) ⟨Nat.le_of_ble_eq_true rfl, Nat.le_of_ble_eq_true rfl⟩, hA _ wd_2_195, hA _ wd_2_196⟩ ⟨bl, recv_X6 hE hG (by rw [t_p1]), fun U hU9 hW9 => ⟨rfl, by rw [hU9]; exact hG, hE.go hS hU9 hW9⟩⟩ rfl rfl hl.1 rfl (lv_room (Nat.le_of_ble_eq_true rfl)) dX4_readRest_57 ⟨Nat.zero_le _, Nat.zero_le _⟩) hS (fun u35 H locs w36 hG hS => ?_)
      have eu37 := w36
      rw [eu37] at hG
      refine lv_goto (tgt := 122) hx hb dX4_readRest_60 (by decide) ?_
      exact W.vret hx hb hr (fun t ht hW => ⟨⟨u31, rfl, ⟨(fun c j h9 h11 h14 h15 h16 h17 h18 => by rw [hf34 c j h9 h14 h15 h16 h17 h18, hf25 c j h9 h14 h15 h16 h17 h18, hf18 c j h9 h14 h15 h16 h17 h18]), (by omega)⟩, ok1 ht hG⟩, hS.F ht⟩) hS.2.2 dX4_readRest_122
    · skip
      refine lv_tableIn (tgt := 63) (off := 62) hx hb dX4_readRest_1 (by omega) (by omega) (by rw [q9]; rfl) (by decide) ?_
      refine lv_aload_n hx hb dX4_readRest_63 rfl (lv_at hl 0 rfl) ?_
      refine ty_iconst hx hb (1) dX4_readRest_64 (by decide) (fun x38 h39 => ?_)
      refine ty_iconst hx hb (4) dX4_readRest_65 (by decide) (fun x40 h41 => ?_)
      refine cI (va_runV (C := RX4) (As := [.int x38, .int x40]) (rest := []) ⟨hx, hb, hml, hown, hA⟩ (k_X4_expectNumber l dC dI dA sz X Γ hU g h0 t_h0 x38 x40   (by omega)) ⟨callB_of 2 hA (al_A wd_2_193) rfl rfl rfl (hA _ wd_1_2) (hA _ wd_2_190) (by decide +kernel) ⟨Nat.le_of_ble_eq_true rfl, Nat.le_of_ble_eq_true rfl⟩, hA _ wd_2_192, hA _ ws_11⟩ ⟨bl, recv_X4 hE hG t_h0, fun U hU9 hW9 => ⟨rfl, by rw [hU9]; exact hG, hE.go hS hU9 hW9⟩⟩ rfl rfl hl.1 rfl (lv_room (Nat.le_of_ble_eq_true rfl)) dX4_readRest_66 ⟨Nat.zero_le _, Nat.zero_le _⟩) hS (fun x44 u42 H locs w43 hG hS => ?_)
      obtain ⟨hf45, w43⟩ := w43
      refine lv_istore (lv' := [(5, .int x44), (0, .ref h0), (1, .ref p1), (2, .int p2)]) hx hb dX4_readRest_69 hl (by decide) rfl (fun ls hl => ?_)
      refine lv_aload_n hx hb dX4_readRest_71 rfl (lv_at hl 2 rfl) ?_
      refine lv_iload hx hb dX4_readRest_72 (lv_at hl 0 rfl) ?_
      refine lv_aload_n hx hb dX4_readRest_74 rfl (lv_at hl 1 rfl) ?_
      refine ty_iconst hx hb (0) dX4_readRest_75 (by decide) (fun x46 h47 => ?_)
      refine ty_sipush hx hb (9999) dX4_readRest_76 (by decide) (fun x48 h49 => ?_)
      have hk50 : u42 6 0 = g 6 0 := hf45 6 0 (by decide) (by decide) (by decide) (by decide) (by decide) (by decide)
      refine cI (va_runV (C := RX4) (As := [.int x46, .int x48]) (rest := [.int x44, .ref p1]) ⟨hx, hb, hml, hown, hA⟩ (k_X4_expectNumber l dC dI dA sz X Γ hU u42 h0 t_h0 x46 x48   (by omega)) ⟨callB_of 2 hA (al_A wd_2_193) rfl rfl rfl (hA _ wd_1_2) (hA _ wd_2_190) (by decide +kernel) ⟨Nat.le_of_ble_eq_true rfl, Nat.le_of_ble_eq_true rfl⟩, hA _ wd_2_192, hA _ ws_11⟩ ⟨bl, recv_X4 hE hG t_h0, fun U hU9 hW9 => ⟨rfl, by rw [hU9]; exact hG, hE.go hS hU9 hW9⟩⟩ rfl rfl hl.1 rfl (lv_room (Nat.le_of_ble_eq_true rfl)) dX4_readRest_79 ⟨Nat.zero_le _, Nat.zero_le _⟩) hS (fun x53 u51 H locs w52 hG hS => ?_)
      obtain ⟨hf54, w52⟩ := w52
      refine cV (va_runV (C := RX6) (As := [.int x44, .int x53]) (rest := []) ⟨hx, hb, hml, hown, hA⟩ (k_X6_setSize l dC dI dA sz X Γ hU u51 p1 ii t_p1 x44 x53   ) ⟨callB_of 2 hA (al_A wd_2_204) rfl rfl rfl (hA _ wd_1_3) (hA _ wd_2_201) (by decide +kernel) ⟨Nat.le_of_ble_eq_true rfl, Nat.le_of_ble_eq_true rfl⟩, hA _ wd_2_202, hA _ wd_2_203⟩ ⟨bl, recv_X6 hE hG (by rw [t_p1]), fun U hU9 hW9 => ⟨rfl, by rw [hU9]; exact hG, hE.go hS hU9 hW9⟩⟩ rfl rfl hl.1 rfl (lv_room (Nat.le_of_ble_eq_true rfl)) dX4_readRest_82 ⟨Nat.zero_le _, Nat.zero_le _⟩) hS (fun u55 H locs w56 hG hS => ?_)
      have eu57 := w56
      rw [eu57] at hG
      refine lv_goto (tgt := 122) hx hb dX4_readRest_85 (by decide) ?_
      exact W.vret hx hb hr (fun t ht hW => ⟨⟨u51, rfl, ⟨(fun c j h9 h11 h14 h15 h16 h17 h18 => by rw [hf54 c j h9 h14 h15 h16 h17 h18, hf45 c j h9 h14 h15 h16 h17 h18]), (by omega)⟩, ok1 ht hG⟩, hS.F ht⟩) hS.2.2 dX4_readRest_122
    · skip
      refine lv_tableIn (tgt := 88) (off := 87) hx hb dX4_readRest_1 (by omega) (by omega) (by rw [q10]; rfl) (by decide) ?_
      refine lv_aload_n hx hb dX4_readRest_88 rfl (lv_at hl 0 rfl) ?_
      refine ty_iconst hx hb (0) dX4_readRest_89 (by decide) (fun x58 h59 => ?_)
      refine ty_bipush hx hb (52) dX4_readRest_90 (by decide) (fun x60 h61 => ?_)
      refine cI (va_runV (C := RX4) (As := [.int x58, .int x60]) (rest := []) ⟨hx, hb, hml, hown, hA⟩ (k_X4_expectNumber l dC dI dA sz X Γ hU g h0 t_h0 x58 x60   (by omega)) ⟨callB_of 2 hA (al_A wd_2_193) rfl rfl rfl (hA _ wd_1_2) (hA _ wd_2_190) (by decide +kernel) ⟨Nat.le_of_ble_eq_true rfl, Nat.le_of_ble_eq_true rfl⟩, hA _ wd_2_192, hA _ ws_11⟩ ⟨bl, recv_X4 hE hG t_h0, fun U hU9 hW9 => ⟨rfl, by rw [hU9]; exact hG, hE.go hS hU9 hW9⟩⟩ rfl rfl hl.1 rfl (lv_room (Nat.le_of_ble_eq_true rfl)) dX4_readRest_92 ⟨Nat.zero_le _, Nat.zero_le _⟩) hS (fun x64 u62 H locs w63 hG hS => ?_)
      obtain ⟨hf65, w63⟩ := w63
      refine lv_istore (lv' := [(6, .int x64), (0, .ref h0), (1, .ref p1), (2, .int p2)]) hx hb dX4_readRest_95 hl (by decide) rfl (fun ls hl => ?_)
      refine lv_aload_n hx hb dX4_readRest_97 rfl (lv_at hl 2 rfl) ?_
      refine lv_iload hx hb dX4_readRest_98 (lv_at hl 0 rfl) ?_
      refine lv_aload_n hx hb dX4_readRest_100 rfl (lv_at hl 1 rfl) ?_
      refine ty_iconst hx hb (0) dX4_readRest_101 (by decide) (fun x66 h67 => ?_)
      refine ty_sipush hx hb (9999) dX4_readRest_102 (by decide) (fun x68 h69 => ?_)
      have hk70 : u62 6 0 = g 6 0 := hf65 6 0 (by decide) (by decide) (by decide) (by decide) (by decide) (by decide)
      refine cI (va_runV (C := RX4) (As := [.int x66, .int x68]) (rest := [.int x64, .ref p1]) ⟨hx, hb, hml, hown, hA⟩ (k_X4_expectNumber l dC dI dA sz X Γ hU u62 h0 t_h0 x66 x68   (by omega)) ⟨callB_of 2 hA (al_A wd_2_193) rfl rfl rfl (hA _ wd_1_2) (hA _ wd_2_190) (by decide +kernel) ⟨Nat.le_of_ble_eq_true rfl, Nat.le_of_ble_eq_true rfl⟩, hA _ wd_2_192, hA _ ws_11⟩ ⟨bl, recv_X4 hE hG t_h0, fun U hU9 hW9 => ⟨rfl, by rw [hU9]; exact hG, hE.go hS hU9 hW9⟩⟩ rfl rfl hl.1 rfl (lv_room (Nat.le_of_ble_eq_true rfl)) dX4_readRest_105 ⟨Nat.zero_le _, Nat.zero_le _⟩) hS (fun x73 u71 H locs w72 hG hS => ?_)
      obtain ⟨hf74, w72⟩ := w72
      refine cV (va_runV (C := RX6) (As := [.int x64, .int x73]) (rest := []) ⟨hx, hb, hml, hown, hA⟩ (k_X6_setEarly l dC dI dA sz X Γ hU u71 p1 ii t_p1 x64 x73   ) ⟨callB_of 2 hA (al_A wd_2_209) rfl rfl rfl (hA _ wd_1_3) (hA _ wd_2_206) (by decide +kernel) ⟨Nat.le_of_ble_eq_true rfl, Nat.le_of_ble_eq_true rfl⟩, hA _ wd_2_207, hA _ wd_2_208⟩ ⟨bl, recv_X6 hE hG (by rw [t_p1]), fun U hU9 hW9 => ⟨rfl, by rw [hU9]; exact hG, hE.go hS hU9 hW9⟩⟩ rfl rfl hl.1 rfl (lv_room (Nat.le_of_ble_eq_true rfl)) dX4_readRest_108 ⟨Nat.zero_le _, Nat.zero_le _⟩) hS (fun u75 H locs w76 hG hS => ?_)
      have eu77 := w76
      rw [eu77] at hG
      refine lv_goto (tgt := 122) hx hb dX4_readRest_111 (by decide) ?_
      exact W.vret hx hb hr (fun t ht hW => ⟨⟨u71, rfl, ⟨(fun c j h9 h11 h14 h15 h16 h17 h18 => by rw [hf74 c j h9 h14 h15 h16 h17 h18, hf65 c j h9 h14 h15 h16 h17 h18]), (by omega)⟩, ok1 ht hG⟩, hS.F ht⟩) hS.2.2 dX4_readRest_122

set_option maxHeartbeats 4000000 in
set_option maxRecDepth 100000 in
/-- WeekBank$Reader.readStatement:  -/
theorem k_X4_readStatement (l : Launch) (dC : Nat → ClassId) (dI : Nat → Nat → Nat) (dA : Nat → ClassId) (sz : Nat) (X : va_W) (Γ : ty_G) (hU : Un Γ) (g : gh) (h0 : Nat) (t_h0 : ty Γ h0 7) (p1 ii : Nat) (t_p1 : Γ p1 = (6, ii)) (hp : 0 ≤ g 17 0 ∧ g 17 0 ≤ g 16 0 ∧ g 16 0 ≤ g 6 0 ∧ g 6 0 ≤ 300) : Met l yX4_readStatement (.code yX4_readStatement cX4_readStatement 3 (Option.none : Option Jvm.ClassFile.FieldType) :: AL) ({ frames := 7, cells := 0, slots := 0, locals := 154 }) (PCx dC dI dA sz X Γ g [.ref h0, .ref p1]) (va_Qv (fun (u : gh) => (∀ c j : Nat, c ≠ 9 → c ≠ 10 → c ≠ 11 → c ≠ 14 → c ≠ 15 → c ≠ 16 → c ≠ 17 → c ≠ 18 → u c j = g c j) ∧ ((0 ≤ u 17 0 ∧ u 17 0 ≤ u 16 0 ∧ u 16 0 ≤ g 6 0))) (okb dC dI dA sz X Γ) (ty_A sz)) 0 0 (ty_A sz) := by
  refine Met.ofW (cc := cX4_readStatement) (maxL := 3) (ret := (Option.none : Option Jvm.ClassFile.FieldType)) (by decide) rfl ?_
  intro p e s m args below meth c s₁ B hml hv
  obtain ⟨rfl, hG, hE⟩ := hv
  have hx := B.exec
  have hb := B.bytes
  have hr := B.returns
  have hts := atoms_spec B.pre
  have hA : ∀ w ∈ AL, w.before _ s = true := fun w h => hts w (List.mem_cons_of_mem _ h)
  have hown : s.vm.findClass RX4 = some m.cls := findClass_of_methodNamed B.named
  have hlocks := B.notSynchronized
  have hS : va_S (ty_A sz) s.heap s.heap [] := va_S.rf
  have hl := lv_entry ([.ref h0, .ref p1]) (n := 3) (Nat.le_of_ble_eq_true rfl)
  rw [lg_entry_eq]
  generalize (lg_sl ([.ref h0, .ref p1]) ++ List.replicate (3 - (lg_sl ([.ref h0, .ref p1])).length) Slot.unset).toArray = ls at hl ⊢
  have hl : lv_has ls 3 [(0, .ref h0), (1, .ref p1)] := hl
  refine lv_aload_n hx hb dX4_readStatement_0 rfl (lv_at hl 0 rfl) ?_
  refine cI (va_runV (C := RX4) (As := []) (rest := []) ⟨hx, hb, hml, hown, hA⟩ (k_X4_statementKind l dC dI dA sz X Γ hU g h0 t_h0   (by omega)) ⟨callB_of 0 hA (al_A wd_2_125) rfl rfl rfl (hA _ wd_1_2) (hA _ wd_2_122) (by decide +kernel) ⟨Nat.le_of_ble_eq_true rfl, Nat.le_of_ble_eq_true rfl⟩, hA _ wd_2_124, hA _ ws_7⟩ ⟨bl, recv_X4 hE hG t_h0, fun U hU9 hW9 => ⟨rfl, by rw [hU9]; exact hG, hE.go hS hU9 hW9⟩⟩ rfl rfl hl.1 rfl (lv_room (Nat.le_of_ble_eq_true rfl)) dX4_readStatement_1 ⟨Nat.zero_le _, Nat.zero_le _⟩) hS (fun x3 u1 H locs w2 hG hS => ?_)
  obtain ⟨eu4, w2⟩ := w2
  rw [eu4] at hG
  refine lv_istore_n (lv' := [(2, .int x3), (0, .ref h0), (1, .ref p1)]) hx hb dX4_readStatement_4 rfl hl (by decide) rfl (fun ls hl => ?_)
  refine lv_iload_n hx hb dX4_readStatement_5 rfl (lv_at hl 0 rfl) ?_
  refine ty_if_ne (tgt := 15) hx hb dX4_readStatement_6 (by decide) (fun c5 => ?_) (fun c5 => ?_)
  · skip
    refine lv_aload_n hx hb dX4_readStatement_15 rfl (lv_at hl 2 rfl) ?_
    refine get_X6_4 hx hb hA hown hE hG t_p1 wd_1_87 dX4_readStatement_16 (fun x6 h7 => ?_)
    refine ty_bipush hx hb (30) dX4_readStatement_19 (by decide) (fun x9 h10 => ?_)
    refine ty_icmp_lt (tgt := 30) hx hb dX4_readStatement_21 (by decide) (fun c11 => ?_) (fun c11 => ?_)
    · skip
      refine lv_aload_n hx hb dX4_readStatement_30 rfl (lv_at hl 1 rfl) ?_
      refine cV (va_runV (C := RX4) (As := []) (rest := []) ⟨hx, hb, hml, hown, hA⟩ (k_X4_readToken l dC dI dA sz X Γ hU g h0 t_h0   (by omega)) ⟨callB_of 0 hA (al_A wd_2_100) rfl rfl rfl (hA _ wd_1_2) (hA _ wd_2_97) (by decide +kernel) ⟨Nat.le_of_ble_eq_true rfl, Nat.le_of_ble_eq_true rfl⟩, hA _ wd_2_99, hA _ ws_3⟩ ⟨bl, recv_X4 hE hG t_h0, fun U hU9 hW9 => ⟨rfl, by rw [hU9]; exact hG, hE.go hS hU9 hW9⟩⟩ rfl rfl hl.1 rfl (lv_room (Nat.le_of_ble_eq_true rfl)) dX4_readStatement_31 ⟨Nat.zero_le _, Nat.zero_le _⟩) hS (fun u12 H locs w13 hG hS => ?_)
      obtain ⟨hf14, w13⟩ := w13
      refine lv_aload_n hx hb dX4_readStatement_34 rfl (lv_at hl 1 rfl) ?_
      refine lv_aload_n hx hb dX4_readStatement_35 rfl (lv_at hl 2 rfl) ?_
      refine lv_iload_n hx hb dX4_readStatement_36 rfl (lv_at hl 0 rfl) ?_
      have hk15 : u12 6 0 = g 6 0 := hf14 6 0 (by decide) (by decide) (by decide) (by decide)
      refine cV (va_runV (C := RX4) (As := [.ref p1, .int x3]) (rest := []) ⟨hx, hb, hml, hown, hA⟩ (k_X4_readRest l dC dI dA sz X Γ hU u12 h0 t_h0 p1 ii t_p1 x3   (by omega)) ⟨callB_of 2 hA (al_A wd_2_189) rfl rfl rfl (hA _ wd_1_2) (hA _ wd_2_186) (by decide +kernel) ⟨Nat.le_of_ble_eq_true rfl, Nat.le_of_ble_eq_true rfl⟩, hA _ wd_2_188, hA _ ws_10⟩ ⟨bl, recv_X4 hE hG t_h0, fun U hU9 hW9 => ⟨rfl, by rw [hU9]; exact hG, hE.go hS hU9 hW9⟩⟩ rfl rfl hl.1 rfl (lv_room (Nat.le_of_ble_eq_true rfl)) dX4_readStatement_37 ⟨Nat.zero_le _, Nat.zero_le _⟩) hS (fun u16 H locs w17 hG hS => ?_)
      obtain ⟨hf18, w17⟩ := w17
      refine lv_aload_n hx hb dX4_readStatement_40 rfl (lv_at hl 1 rfl) ?_
      have hk19 : u16 6 0 = u12 6 0 := hf18 6 0 (by decide) (by decide) (by decide) (by decide) (by decide) (by decide) (by decide)
      refine cV (va_runV (C := RX4) (As := []) (rest := []) ⟨hx, hb, hml, hown, hA⟩ (k_X4_expectSign l dC dI dA sz X Γ hU u16 h0 t_h0   (by omega)) ⟨callB_of 0 hA (al_A wd_2_220) rfl rfl rfl (hA _ wd_1_2) (hA _ wd_2_217) (by decide +kernel) ⟨Nat.le_of_ble_eq_true rfl, Nat.le_of_ble_eq_true rfl⟩, hA _ wd_2_219, hA _ ws_13⟩ ⟨bl, recv_X4 hE hG t_h0, fun U hU9 hW9 => ⟨rfl, by rw [hU9]; exact hG, hE.go hS hU9 hW9⟩⟩ rfl rfl hl.1 rfl (lv_room (Nat.le_of_ble_eq_true rfl)) dX4_readStatement_41 ⟨Nat.zero_le _, Nat.zero_le _⟩) hS (fun u20 H locs w21 hG hS => ?_)
      obtain ⟨hf22, w21⟩ := w21
      refine lv_aload_n hx hb dX4_readStatement_44 rfl (lv_at hl 2 rfl) ?_
      refine lv_dup hx hb dX4_readStatement_45 rfl ?_
      refine get_X6_4 hx hb hA hown hE hG t_p1 wd_1_87 dX4_readStatement_46 (fun x23 h24 => ?_)
      have hk26 : u20 10 ii = u16 10 ii := hf22 10 ii (by decide) (by decide) (by decide) (by decide) (by decide) (by decide)
      have hk27 : u16 10 ii = u12 10 ii := hf18 10 ii (by decide) (by decide) (by decide) (by decide) (by decide) (by decide) (by decide)
      have hk28 : u12 10 ii = g 10 ii := hf14 10 ii (by decide) (by decide) (by decide) (by decide)
      refine ty_iconst hx hb (1) dX4_readStatement_49 (by decide) (fun x29 h30 => ?_)
      refine ty_iadd hx hb dX4_readStatement_50 (fun x31 h32 => ?_)
      try have h33 : x31.toInt = x23.toInt + x29.toInt := ty_add h32 (by omega) (by omega)
      refine put_X6_4 hx hb hA hown hE hG hS hU t_p1 wd_1_87 dX4_readStatement_51 (fun H locs hG hS => ?_)
      have e34 : (gs u20 10 ii x31.toInt) 16 0 = u20 16 0 := by simp [gs]
      have e35 : (gs u20 10 ii x31.toInt) 17 0 = u20 17 0 := by simp [gs]
      exact W.vret hx hb hr (fun t ht hW => ⟨⟨(gs u20 10 ii x31.toInt), rfl, ⟨(fun c j h9 h10 h11 h14 h15 h16 h17 h18 => by rw [gs_c _ _ _ _ h10, hf22 c j h9 h14 h15 h16 h17 h18, hf18 c j h9 h11 h14 h15 h16 h17 h18, hf14 c j h15 h16 h17 h18]), (by omega)⟩, ok1 ht hG⟩, hS.F ht⟩) hS.2.2 dX4_readStatement_54
    · skip
      refine lv_aload_n hx hb dX4_readStatement_24 rfl (lv_at hl 1 rfl) ?_
      refine ty_iconst hx hb (3) dX4_readStatement_25 (by decide) (fun x36 h37 => ?_)
      refine cV (va_runV (C := RX4) (As := [.int x36]) (rest := []) ⟨hx, hb, hml, hown, hA⟩ (k_X4_blame l dC dI dA sz X Γ hU g h0 t_h0 x36   ) ⟨callB_of 1 hA (al_A wd_2_185) rfl rfl rfl (hA _ wd_1_2) (hA _ wd_2_182) (by decide +kernel) ⟨Nat.le_of_ble_eq_true rfl, Nat.le_of_ble_eq_true rfl⟩, hA _ wd_2_184, hA _ ws_9⟩ ⟨bl, recv_X4 hE hG t_h0, fun U hU9 hW9 => ⟨rfl, by rw [hU9]; exact hG, hE.go hS hU9 hW9⟩⟩ rfl rfl hl.1 rfl (lv_room (Nat.le_of_ble_eq_true rfl)) dX4_readStatement_26 ⟨Nat.zero_le _, Nat.zero_le _⟩) hS (fun u38 H locs w39 hG hS => ?_)
      have hf40 := w39
      have hk41 : u38 16 0 = g 16 0 := hf40 16 0 (by decide) (by decide)
      have hk42 : u38 17 0 = g 17 0 := hf40 17 0 (by decide) (by decide)
      exact W.vret hx hb hr (fun t ht hW => ⟨⟨u38, rfl, ⟨(fun c j h9 h10 h11 h14 h15 h16 h17 h18 => by rw [hf40 c j h9 h14]), (by omega)⟩, ok1 ht hG⟩, hS.F ht⟩) hS.2.2 dX4_readStatement_29
  · skip
    refine lv_aload_n hx hb dX4_readStatement_9 rfl (lv_at hl 1 rfl) ?_
    refine ty_iconst hx hb (1) dX4_readStatement_10 (by decide) (fun x43 h44 => ?_)
    refine cV (va_runV (C := RX4) (As := [.int x43]) (rest := []) ⟨hx, hb, hml, hown, hA⟩ (k_X4_blame l dC dI dA sz X Γ hU g h0 t_h0 x43   ) ⟨callB_of 1 hA (al_A wd_2_185) rfl rfl rfl (hA _ wd_1_2) (hA _ wd_2_182) (by decide +kernel) ⟨Nat.le_of_ble_eq_true rfl, Nat.le_of_ble_eq_true rfl⟩, hA _ wd_2_184, hA _ ws_9⟩ ⟨bl, recv_X4 hE hG t_h0, fun U hU9 hW9 => ⟨rfl, by rw [hU9]; exact hG, hE.go hS hU9 hW9⟩⟩ rfl rfl hl.1 rfl (lv_room (Nat.le_of_ble_eq_true rfl)) dX4_readStatement_11 ⟨Nat.zero_le _, Nat.zero_le _⟩) hS (fun u45 H locs w46 hG hS => ?_)
    have hf47 := w46
    have hk48 : u45 16 0 = g 16 0 := hf47 16 0 (by decide) (by decide)
    have hk49 : u45 17 0 = g 17 0 := hf47 17 0 (by decide) (by decide)
    exact W.vret hx hb hr (fun t ht hW => ⟨⟨u45, rfl, ⟨(fun c j h9 h10 h11 h14 h15 h16 h17 h18 => by rw [hf47 c j h9 h14]), (by omega)⟩, ok1 ht hG⟩, hS.F ht⟩) hS.2.2 dX4_readStatement_14

set_option maxHeartbeats 4000000 in
set_option maxRecDepth 100000 in
/-- WeekBank$Rules.clear:  -/
theorem k_X6_clear (l : Launch) (dC : Nat → ClassId) (dI : Nat → Nat → Nat) (dA : Nat → ClassId) (sz : Nat) (X : va_W) (Γ : ty_G) (hU : Un Γ) (g : gh) (h0 ii : Nat) (t_h0 : Γ h0 = (6, ii)) : Met l yX6_clear (.code yX6_clear cX6_clear 1 (Option.none : Option Jvm.ClassFile.FieldType) :: AL) ({ frames := 1, cells := 0, slots := 0, locals := 23 }) (PCx dC dI dA sz X Γ g [.ref h0]) (va_Qv (fun (u : gh) => (∀ c j : Nat, c ≠ 10 → c ≠ 11 → u c j = g c j) ∧ ((u 10 ii = 0) ∧ (u 11 ii = 0))) (okb dC dI dA sz X Γ) (ty_A sz)) 0 0 (ty_A sz) := by
  refine Met.ofW (cc := cX6_clear) (maxL := 1) (ret := (Option.none : Option Jvm.ClassFile.FieldType)) (by decide) rfl ?_
  intro p e s m args below meth c s₁ B hml hv
  obtain ⟨rfl, hG, hE⟩ := hv
  have hx := B.exec
  have hb := B.bytes
  have hr := B.returns
  have hts := atoms_spec B.pre
  have hA : ∀ w ∈ AL, w.before _ s = true := fun w h => hts w (List.mem_cons_of_mem _ h)
  have hown : s.vm.findClass RX6 = some m.cls := findClass_of_methodNamed B.named
  have hlocks := B.notSynchronized
  have hS : va_S (ty_A sz) s.heap s.heap [] := va_S.rf
  have hl := lv_entry ([.ref h0]) (n := 1) (Nat.le_of_ble_eq_true rfl)
  rw [lg_entry_eq]
  generalize (lg_sl ([.ref h0]) ++ List.replicate (1 - (lg_sl ([.ref h0])).length) Slot.unset).toArray = ls at hl ⊢
  have hl : lv_has ls 1 [(0, .ref h0)] := hl
  refine lv_aload_n hx hb dX6_clear_0 rfl (lv_at hl 0 rfl) ?_
  refine get_X6_0 hx hb hA hown hE hG t_h0 wd_1_80 dX6_clear_1 (fun b1 t_b1 => ?_)
  refine ty_iconst hx hb (0) dX6_clear_4 (by decide) (fun x2 h3 => ?_)
  refine cV (va_runS (As := [.ref b1, .int x2]) (rest := []) ⟨hx, hb, hml, hown, hA⟩ (k_fill_16 l dC dI dA sz X Γ hU g b1 ii t_b1 x2   ) ⟨callB_of 2 hA (al_A wd_1_79) rfl rfl rfl (hA _ wd_1_4) (hA _ wd_1_77) (by decide +kernel) ⟨Nat.le_of_ble_eq_true rfl, Nat.le_of_ble_eq_true rfl⟩, hA _ wd_1_78⟩ ⟨bl, fun U hU9 hW9 => ⟨rfl, by rw [hU9]; exact hG, hE.go hS hU9 hW9⟩⟩ rfl rfl hl.1 rfl (lv_room (Nat.le_of_ble_eq_true rfl)) dX6_clear_5 ⟨Nat.zero_le _, Nat.zero_le _⟩) hS (fun u4 H locs w5 hG hS => ?_)
  have eu6 := w5
  rw [eu6] at hG
  refine lv_aload_n hx hb dX6_clear_8 rfl (lv_at hl 0 rfl) ?_
  refine get_X6_1 hx hb hA hown hE hG t_h0 wd_1_81 dX6_clear_9 (fun b7 t_b7 => ?_)
  refine ty_iconst hx hb (0) dX6_clear_12 (by decide) (fun x8 h9 => ?_)
  refine cV (va_runS (As := [.ref b7, .int x8]) (rest := []) ⟨hx, hb, hml, hown, hA⟩ (k_fill_17 l dC dI dA sz X Γ hU g b7 ii t_b7 x8   ) ⟨callB_of 2 hA (al_A wd_1_79) rfl rfl rfl (hA _ wd_1_4) (hA _ wd_1_77) (by decide +kernel) ⟨Nat.le_of_ble_eq_true rfl, Nat.le_of_ble_eq_true rfl⟩, hA _ wd_1_78⟩ ⟨bl, fun U hU9 hW9 => ⟨rfl, by rw [hU9]; exact hG, hE.go hS hU9 hW9⟩⟩ rfl rfl hl.1 rfl (lv_room (Nat.le_of_ble_eq_true rfl)) dX6_clear_13 ⟨Nat.zero_le _, Nat.zero_le _⟩) hS (fun u10 H locs w11 hG hS => ?_)
  have eu12 := w11
  rw [eu12] at hG
  refine lv_aload_n hx hb dX6_clear_16 rfl (lv_at hl 0 rfl) ?_
  refine get_X6_2 hx hb hA hown hE hG t_h0 wd_1_82 dX6_clear_17 (fun b13 t_b13 => ?_)
  refine ty_iconst hx hb (-1) dX6_clear_20 (by decide) (fun x14 h15 => ?_)
  refine cV (va_runS (As := [.ref b13, .int x14]) (rest := []) ⟨hx, hb, hml, hown, hA⟩ (k_fill_26 l dC dI dA sz X Γ hU g b13 ii t_b13 x14   ) ⟨callB_of 2 hA (al_A wd_1_79) rfl rfl rfl (hA _ wd_1_4) (hA _ wd_1_77) (by decide +kernel) ⟨Nat.le_of_ble_eq_true rfl, Nat.le_of_ble_eq_true rfl⟩, hA _ wd_1_78⟩ ⟨bl, fun U hU9 hW9 => ⟨rfl, by rw [hU9]; exact hG, hE.go hS hU9 hW9⟩⟩ rfl rfl hl.1 rfl (lv_room (Nat.le_of_ble_eq_true rfl)) dX6_clear_21 ⟨Nat.zero_le _, Nat.zero_le _⟩) hS (fun u16 H locs w17 hG hS => ?_)
  have eu18 := w17
  rw [eu18] at hG
  refine lv_aload_n hx hb dX6_clear_24 rfl (lv_at hl 0 rfl) ?_
  refine ty_iconst hx hb (0) dX6_clear_25 (by decide) (fun x19 h20 => ?_)
  refine put_X6_3 hx hb hA hown hE hG hS hU t_h0 wd_1_83 (by omega) dX6_clear_26 (fun H locs hG hS => ?_)
  refine lv_aload_n hx hb dX6_clear_29 rfl (lv_at hl 0 rfl) ?_
  refine ty_iconst hx hb (0) dX6_clear_30 (by decide) (fun x21 h22 => ?_)
  refine put_X6_4 hx hb hA hown hE hG hS hU t_h0 wd_1_86 dX6_clear_31 (fun H locs hG hS => ?_)
  have e23 : (gs (gs g 11 ii x19.toInt) 10 ii x21.toInt) 10 ii = x21.toInt := by simp [gs]
  have e24 : (gs (gs g 11 ii x19.toInt) 10 ii x21.toInt) 11 ii = x19.toInt := by simp [gs]
  exact W.vret hx hb hr (fun t ht hW => ⟨⟨(gs (gs g 11 ii x19.toInt) 10 ii x21.toInt), rfl, ⟨(fun c j h10 h11 => by rw [gs_c _ _ _ _ h10, gs_c _ _ _ _ h11]), (by omega)⟩, ok1 ht hG⟩, hS.F ht⟩) hS.2.2 dX6_clear_34

set_option maxHeartbeats 4000000 in
set_option maxRecDepth 100000 in
/-- WeekBank$Reader.readInto:  -/
theorem k_X4_readInto (l : Launch) (dC : Nat → ClassId) (dI : Nat → Nat → Nat) (dA : Nat → ClassId) (sz : Nat) (X : va_W) (Γ : ty_G) (hU : Un Γ) (g : gh) (h0 : Nat) (t_h0 : ty Γ h0 7) (p1 ii : Nat) (t_p1 : Γ p1 = (6, ii)) (hp : 0 ≤ g 6 0 ∧ g 6 0 ≤ 300) : Met l yX4_readInto (.code yX4_readInto cX4_readInto 3 (Option.none : Option Jvm.ClassFile.FieldType) :: AL) ({ frames := 8, cells := 0, slots := 0, locals := 176 }) (PCx dC dI dA sz X Γ g [.ref h0, .ref p1]) (va_Qv (fun (u : gh) => (∀ c j : Nat, c ≠ 9 → c ≠ 10 → c ≠ 11 → c ≠ 14 → c ≠ 15 → c ≠ 16 → c ≠ 17 → c ≠ 18 → u c j = g c j)) (okb dC dI dA sz X Γ) (ty_A sz)) 0 0 (ty_A sz) := by
  refine Met.ofW (cc := cX4_readInto) (maxL := 3) (ret := (Option.none : Option Jvm.ClassFile.FieldType)) (by decide) rfl ?_
  intro p e s m args below meth c s₁ B hml hv
  obtain ⟨rfl, hG, hE⟩ := hv
  have hx := B.exec
  have hb := B.bytes
  have hr := B.returns
  have hts := atoms_spec B.pre
  have hA : ∀ w ∈ AL, w.before _ s = true := fun w h => hts w (List.mem_cons_of_mem _ h)
  have hown : s.vm.findClass RX4 = some m.cls := findClass_of_methodNamed B.named
  have hlocks := B.notSynchronized
  have hS : va_S (ty_A sz) s.heap s.heap [] := va_S.rf
  have hl := lv_entry ([.ref h0, .ref p1]) (n := 3) (Nat.le_of_ble_eq_true rfl)
  rw [lg_entry_eq]
  generalize (lg_sl ([.ref h0, .ref p1]) ++ List.replicate (3 - (lg_sl ([.ref h0, .ref p1])).length) Slot.unset).toArray = ls at hl ⊢
  have hl : lv_has ls 3 [(0, .ref h0), (1, .ref p1)] := hl
  refine lv_aload_n hx hb dX4_readInto_0 rfl (lv_at hl 1 rfl) ?_
  refine cV (va_runV (C := RX6) (As := []) (rest := []) ⟨hx, hb, hml, hown, hA⟩ (k_X6_clear l dC dI dA sz X Γ hU g p1 ii t_p1   ) ⟨callB_of 0 hA (al_A wd_2_96) rfl rfl rfl (hA _ wd_1_3) (hA _ wd_2_93) (by decide +kernel) ⟨Nat.le_of_ble_eq_true rfl, Nat.le_of_ble_eq_true rfl⟩, hA _ wd_2_94, hA _ wd_2_95⟩ ⟨bl, recv_X6 hE hG (by rw [t_p1]), fun U hU9 hW9 => ⟨rfl, by rw [hU9]; exact hG, hE.go hS hU9 hW9⟩⟩ rfl rfl hl.1 rfl (lv_room (Nat.le_of_ble_eq_true rfl)) dX4_readInto_1 ⟨Nat.zero_le _, Nat.zero_le _⟩) hS (fun u1 H locs w2 hG hS => ?_)
  obtain ⟨hf3, w2⟩ := w2
  refine lv_aload_n hx hb dX4_readInto_4 rfl (lv_at hl 0 rfl) ?_
  refine ty_iconst hx hb (0) dX4_readInto_5 (by decide) (fun x4 h5 => ?_)
  refine put_X4_2 hx hb hA hown hE hG hS hU t_h0 wd_1_45 dX4_readInto_6 (fun H locs hG hS => ?_)
  refine lv_aload_n hx hb dX4_readInto_9 rfl (lv_at hl 0 rfl) ?_
  refine ty_iconst hx hb (-1) dX4_readInto_10 (by decide) (fun x6 h7 => ?_)
  refine put_X4_3 hx hb hA hown hE hG hS hU t_h0 wd_1_47 dX4_readInto_11 (fun H locs hG hS => ?_)
  refine lv_aload_n hx hb dX4_readInto_14 rfl (lv_at hl 0 rfl) ?_
  refine ty_iconst hx hb (0) dX4_readInto_15 (by decide) (fun x8 h9 => ?_)
  refine put_X4_4 hx hb hA hown hE hG hS hU t_h0 wd_1_49 dX4_readInto_16 (fun H locs hG hS => ?_)
  generalize eg11 : (gs (gs (gs u1 9 0 x4.toInt) 14 0 x6.toInt) 16 0 x8.toInt) = g10 at hG
  have hf12 : ∀ c j : Nat, c ≠ 9 → c ≠ 14 → c ≠ 16 → g10 c j = u1 c j := fun c j h9 h14 h16 => by rw [← eg11, gs_c _ _ _ _ h16, gs_c _ _ _ _ h14, gs_c _ _ _ _ h9]
  have v13 : g10 9 0 = x4.toInt := by rw [← eg11, gs_c _ _ _ _ (by decide), gs_c _ _ _ _ (by decide), gs_self]
  have v14 : g10 14 0 = x6.toInt := by rw [← eg11, gs_c _ _ _ _ (by decide), gs_self]
  have v15 : g10 16 0 = x8.toInt := by rw [← eg11, gs_self]
  refine lv_aload_n hx hb dX4_readInto_19 rfl (lv_at hl 0 rfl) ?_
  have hk16 : g10 6 0 = u1 6 0 := hf12 6 0 (by decide) (by decide) (by decide)
  have hk17 : u1 6 0 = g 6 0 := hf3 6 0 (by decide) (by decide)
  refine cV (va_runV (C := RX4) (As := []) (rest := []) ⟨hx, hb, hml, hown, hA⟩ (k_X4_readToken l dC dI dA sz X Γ hU g10 h0 t_h0   (by omega)) ⟨callB_of 0 hA (al_A wd_2_100) rfl rfl rfl (hA _ wd_1_2) (hA _ wd_2_97) (by decide +kernel) ⟨Nat.le_of_ble_eq_true rfl, Nat.le_of_ble_eq_true rfl⟩, hA _ wd_2_99, hA _ ws_3⟩ ⟨bl, recv_X4 hE hG t_h0, fun U hU9 hW9 => ⟨rfl, by rw [hU9]; exact hG, hE.go hS hU9 hW9⟩⟩ rfl rfl hl.1 rfl (lv_room (Nat.le_of_ble_eq_true rfl)) dX4_readInto_20 ⟨Nat.zero_le _, Nat.zero_le _⟩) hS (fun u18 H locs w19 hG hS => ?_)
  obtain ⟨hf20, w19⟩ := w19
  refine ty_iconst hx hb (0) dX4_readInto_23 (by decide) (fun x21 h22 => ?_)
  refine lv_istore_n (lv' := [(2, .int x21), (0, .ref h0), (1, .ref p1)]) hx hb dX4_readInto_24 rfl hl (by decide) rfl (fun ls hl => ?_)
  have L_25 : ∀ (n : Nat) (v2_25 : Int32) (g23 : gh) (H : Heap) (locs : List Loc) (ls : Array Slot), (31 - v2_25.toInt : Int) < n → 0 ≤ v2_25.toInt ∧ v2_25.toInt ≤ 31 → 0 ≤ g23 17 0 ∧ g23 17 0 ≤ g23 16 0 ∧ g23 16 0 ≤ g23 6 0 ∧ g23 6 0 ≤ 300 → (∀ c j : Nat, c ≠ 9 → c ≠ 10 → c ≠ 11 → c ≠ 14 → c ≠ 15 → c ≠ 16 → c ≠ 17 → c ≠ 18 → g23 c j = u18 c j) → ty_ok (dC, dI) vwCl Γ (TP dA Γ g23) sz X H → va_S (ty_A sz) s.heap H locs → lv_has ls 3 [(2, .int v2_25), (0, .ref h0), (1, .ref p1)] → W p l e (headSpec (.code yX4_readInto cX4_readInto 3 (Option.none : Option Jvm.ClassFile.FieldType) :: AL) ({ frames := 8, cells := 0, slots := 0, locals := 176 })).room s m ([.ref h0, .ref p1] : List Value).toArray below meth c H locs 0 0 (MQ below (va_Qv (fun (u : gh) => (∀ c j : Nat, c ≠ 9 → c ≠ 10 → c ≠ 11 → c ≠ 14 → c ≠ 15 → c ≠ 16 → c ≠ 17 → c ≠ 18 → u c j = g c j)) (okb dC dI dA sz X Γ) (ty_A sz)) ([.ref h0, .ref p1] : List Value).toArray s 0 0 (ty_A sz)) (F0 m 25 ls []) := by
    intro n
    induction n with
    | zero => intro v2_25 g23 H locs ls hm hi0 hi1 hf24 hG hS hl; exfalso; omega
    | succ n ih_25 =>
      intro v2_25 g23 H locs ls hm hi0 hi1 hf24 hG hS hl
      have hk25 : g23 6 0 = u18 6 0 := hf24 6 0 (by decide) (by decide) (by decide) (by decide) (by decide) (by decide) (by decide) (by decide)
      have hk26 : u18 6 0 = g10 6 0 := hf20 6 0 (by decide) (by decide) (by decide) (by decide)
      refine lv_iload_n hx hb dX4_readInto_25 rfl (lv_at hl 0 rfl) ?_
      refine ty_bipush hx hb (30) dX4_readInto_26 (by decide) (fun x27 h28 => ?_)
      refine ty_icmp_gt (tgt := 56) hx hb dX4_readInto_28 (by decide) (fun c29 => ?_) (fun c29 => ?_)
      · skip
        exact W.vret hx hb hr (fun t ht hW => ⟨⟨g23, rfl, (fun c j h9 h10 h11 h14 h15 h16 h17 h18 => by rw [hf24 c j h9 h10 h11 h14 h15 h16 h17 h18, hf20 c j h15 h16 h17 h18, hf12 c j h9 h14 h16, hf3 c j h10 h11]), ok1 ht hG⟩, hS.F ht⟩) hS.2.2 dX4_readInto_56
      · skip
        refine lv_aload_n hx hb dX4_readInto_31 rfl (lv_at hl 1 rfl) ?_
        refine get_X4_5 hx hb hA hown hE hG t_h0 wd_1_50 dX4_readInto_32 (fun x30 h31 => ?_)
        refine ty_if_eq (tgt := 56) hx hb dX4_readInto_35 (by decide) (fun c33 => ?_) (fun c33 => ?_)
        · skip
          exact W.vret hx hb hr (fun t ht hW => ⟨⟨g23, rfl, (fun c j h9 h10 h11 h14 h15 h16 h17 h18 => by rw [hf24 c j h9 h10 h11 h14 h15 h16 h17 h18, hf20 c j h15 h16 h17 h18, hf12 c j h9 h14 h16, hf3 c j h10 h11]), ok1 ht hG⟩, hS.F ht⟩) hS.2.2 dX4_readInto_56
        · skip
          refine lv_aload_n hx hb dX4_readInto_38 rfl (lv_at hl 1 rfl) ?_
          refine get_X4_2 hx hb hA hown hE hG t_h0 wd_1_45 dX4_readInto_39 (fun x34 h35 => ?_)
          refine ty_if_ne (tgt := 56) hx hb dX4_readInto_42 (by decide) (fun c37 => ?_) (fun c37 => ?_)
          · skip
            exact W.vret hx hb hr (fun t ht hW => ⟨⟨g23, rfl, (fun c j h9 h10 h11 h14 h15 h16 h17 h18 => by rw [hf24 c j h9 h10 h11 h14 h15 h16 h17 h18, hf20 c j h15 h16 h17 h18, hf12 c j h9 h14 h16, hf3 c j h10 h11]), ok1 ht hG⟩, hS.F ht⟩) hS.2.2 dX4_readInto_56
          · skip
            refine lv_aload_n hx hb dX4_readInto_45 rfl (lv_at hl 1 rfl) ?_
            refine lv_aload_n hx hb dX4_readInto_46 rfl (lv_at hl 2 rfl) ?_
            refine cV (va_runV (C := RX4) (As := [.ref p1]) (rest := []) ⟨hx, hb, hml, hown, hA⟩ (k_X4_readStatement l dC dI dA sz X Γ hU g23 h0 t_h0 p1 ii t_p1   (by omega)) ⟨callB_of 1 hA (al_A wd_2_121) rfl rfl rfl (hA _ wd_1_2) (hA _ wd_2_118) (by decide +kernel) ⟨Nat.le_of_ble_eq_true rfl, Nat.le_of_ble_eq_true rfl⟩, hA _ wd_2_120, hA _ ws_6⟩ ⟨bl, recv_X4 hE hG t_h0, fun U hU9 hW9 => ⟨rfl, by rw [hU9]; exact hG, hE.go hS hU9 hW9⟩⟩ rfl rfl hl.1 rfl (lv_room (Nat.le_of_ble_eq_true rfl)) dX4_readInto_47 ⟨Nat.zero_le _, Nat.zero_le _⟩) hS (fun u38 H locs w39 hG hS => ?_)
            obtain ⟨hf40, w39⟩ := w39
            obtain ⟨x41, h42⟩ : ∃ y : Int32, y = v2_25 + Int32.ofInt (1) := ⟨_, rfl⟩
            try have h43 : x41.toInt = v2_25.toInt + (1) := ty_inc h42 (by decide) (by omega) (by omega)
            refine lv_iinc (v := x41) (lv' := [(2, .int x41), (0, .ref h0), (1, .ref p1)]) hx hb dX4_readInto_50 hl (k := 0) rfl h42.symm (by decide) rfl (fun ls hl => ?_)
            refine lv_goto (tgt := 25) hx hb dX4_readInto_53 (by decide) ?_
            have hk44 : u38 6 0 = g23 6 0 := hf40 6 0 (by decide) (by decide) (by decide) (by decide) (by decide) (by decide) (by decide) (by decide)
            exact ih_25 x41 u38 _ _ ls (by omega) (by omega) (by omega) (fun c j h9 h10 h11 h14 h15 h16 h17 h18 => by rw [hf40 c j h9 h10 h11 h14 h15 h16 h17 h18, hf24 c j h9 h10 h11 h14 h15 h16 h17 h18]) hG hS (lv_sub hl [0, 1, 2] rfl)
  have hk45 : u18 6 0 = g10 6 0 := hf20 6 0 (by decide) (by decide) (by decide) (by decide)
  exact L_25 ((31 - x21.toInt) + 1).toNat x21 u18 _ _ ls (by omega) (by omega) (by omega) (fun c j _ _ _ _ _ _ _ _ => rfl) hG hS (lv_sub hl [0, 1, 2] rfl)

set_option maxHeartbeats 4000000 in
set_option maxRecDepth 100000 in
/-- WeekBank.rules:  -/
theorem k_X8_rules (l : Launch) (dC : Nat → ClassId) (dI : Nat → Nat → Nat) (dA : Nat → ClassId) (sz : Nat) (X : va_W) (Γ : ty_G) (hU : Un Γ) (g : gh) (h0 : Nat) (t_h0 : ty Γ h0 1) (hp : 0 ≤ g 6 0 ∧ g 6 0 ≤ 300) : Met l yX8_rules (.code yX8_rules cX8_rules 2 (Option.some Jvm.ClassFile.FieldType.int) :: AL) ({ frames := 9, cells := 0, slots := 0, locals := 198 }) (PCx dC dI dA sz X Γ g [.ref h0]) (va_Qi (fun (r : Int32) (u : gh) => (∀ c j : Nat, c ≠ 6 → c ≠ 9 → c ≠ 10 → c ≠ 11 → c ≠ 12 → c ≠ 13 → c ≠ 14 → c ≠ 15 → c ≠ 16 → c ≠ 17 → c ≠ 18 → u c j = g c j) ∧ ((u 6 0 = 0))) (okb dC dI dA sz X Γ) (ty_A sz)) 0 0 (ty_A sz) := by
  refine Met.ofW (cc := cX8_rules) (maxL := 2) (ret := (Option.some Jvm.ClassFile.FieldType.int)) (by decide) rfl ?_
  intro p e s m args below meth c s₁ B hml hv
  obtain ⟨rfl, hG, hE⟩ := hv
  have hx := B.exec
  have hb := B.bytes
  have hr := B.returns
  have hts := atoms_spec B.pre
  have hA : ∀ w ∈ AL, w.before _ s = true := fun w h => hts w (List.mem_cons_of_mem _ h)
  have hown : s.vm.findClass RX8 = some m.cls := findClass_of_methodNamed B.named
  have hlocks := B.notSynchronized
  have hS : va_S (ty_A sz) s.heap s.heap [] := va_S.rf
  have hl := lv_entry ([.ref h0]) (n := 2) (Nat.le_of_ble_eq_true rfl)
  rw [lg_entry_eq]
  generalize (lg_sl ([.ref h0]) ++ List.replicate (2 - (lg_sl ([.ref h0])).length) Slot.unset).toArray = ls at hl ⊢
  have hl : lv_has ls 2 [(0, .ref h0)] := hl
  refine lv_aload_n hx hb dX8_rules_0 rfl (lv_at hl 0 rfl) ?_
  refine get_X8_6 hx hb hA hown hE hG t_h0 wd_1_163 dX8_rules_1 (fun b1 (t_b1 : ty Γ b1 7) => ?_)
  refine lv_aload_n hx hb dX8_rules_4 rfl (lv_at hl 0 rfl) ?_
  refine get_X8_8 hx hb hA hown hE hG t_h0 wd_1_165 dX8_rules_5 (fun b2 i3 t_b2 h4 h4' => ?_)
  refine cV (va_runV (C := RX4) (As := [.ref b2]) (rest := []) ⟨hx, hb, hml, hown, hA⟩ (k_X4_readInto l dC dI dA sz X Γ hU g b1 t_b1 b2 i3 t_b2   (by omega)) ⟨callB_of 1 hA (al_A wd_2_92) rfl rfl rfl (hA _ wd_1_2) (hA _ wd_2_89) (by decide +kernel) ⟨Nat.le_of_ble_eq_true rfl, Nat.le_of_ble_eq_true rfl⟩, hA _ wd_2_90, hA _ wd_2_91⟩ ⟨bl, recv_X4 hE hG t_b1, fun U hU9 hW9 => ⟨rfl, by rw [hU9]; exact hG, hE.go hS hU9 hW9⟩⟩ rfl rfl hl.1 rfl (lv_room (Nat.le_of_ble_eq_true rfl)) dX8_rules_8 ⟨Nat.zero_le _, Nat.zero_le _⟩) hS (fun u5 H locs w6 hG hS => ?_)
  have hf7 := w6
  refine lv_aload_n hx hb dX8_rules_11 rfl (lv_at hl 0 rfl) ?_
  refine get_X8_6 hx hb hA hown hE hG t_h0 wd_1_163 dX8_rules_12 (fun b8 (t_b8 : ty Γ b8 7) => ?_)
  refine ty_iconst hx hb (0) dX8_rules_15 (by decide) (fun x9 h10 => ?_)
  refine put_X4_1 hx hb hA hown hE hG hS hU t_b8 wd_1_44 dX8_rules_16 (fun H locs hG hS => ?_)
  refine lv_aload_n hx hb dX8_rules_19 rfl (lv_at hl 0 rfl) ?_
  refine get_X8_6 hx hb hA hown hE hG t_h0 wd_1_163 dX8_rules_20 (fun b11 (t_b11 : ty Γ b11 7) => ?_)
  refine get_X4_2 hx hb hA hown hE hG t_b11 wd_1_46 dX8_rules_23 (fun x12 h13 => ?_)
  replace h13 : x12.toInt = u5 9 0 := by rw [h13]; simp [gs]
  refine ty_if_eq (tgt := 40) hx hb dX8_rules_26 (by decide) (fun c15 => ?_) (fun c15 => ?_)
  · skip
    refine lv_aload_n hx hb dX8_rules_40 rfl (lv_at hl 0 rfl) ?_
    refine get_X8_7 hx hb hA hown hE hG t_h0 wd_1_164 dX8_rules_41 (fun b16 i17 t_b16 h18 h18' => ?_)
    replace h18 : (i17 : Int) = u5 13 0 := by rw [h18]; simp [gs]
    have hk19 : u5 13 0 = g 13 0 := hf7 13 0 (by decide) (by decide) (by decide) (by decide) (by decide) (by decide) (by decide) (by decide)
    refine lv_astore_n (lv' := [(1, .ref b16), (0, .ref h0)]) hx hb dX8_rules_44 rfl hl (by decide) rfl (fun ls hl => ?_)
    refine lv_aload_n hx hb dX8_rules_45 rfl (lv_at hl 1 rfl) ?_
    refine lv_aload_n hx hb dX8_rules_46 rfl (lv_at hl 1 rfl) ?_
    refine get_X8_8 hx hb hA hown hE hG t_h0 wd_1_165 dX8_rules_47 (fun b20 i21 t_b20 h22 h22' => ?_)
    replace h22 : (i21 : Int) = u5 12 0 := by rw [h22]; simp [gs]
    have hk23 : u5 12 0 = g 12 0 := hf7 12 0 (by decide) (by decide) (by decide) (by decide) (by decide) (by decide) (by decide) (by decide)
    refine put_X8_7 hx hb hA hown hE hG hS hU t_h0 wd_1_164 t_b20 (by omega) dX8_rules_50 (fun H locs hG hS => ?_)
    refine lv_aload_n hx hb dX8_rules_53 rfl (lv_at hl 1 rfl) ?_
    refine lv_aload_n hx hb dX8_rules_54 rfl (lv_at hl 0 rfl) ?_
    refine put_X8_8 hx hb hA hown hE hG hS hU t_h0 wd_1_165 t_b16 (by omega) dX8_rules_55 (fun H locs hG hS => ?_)
    generalize eg25 : (gs (gs (gs u5 6 0 x9.toInt) 13 0 (i21 : Int)) 12 0 (i17 : Int)) = g24 at hG
    have hf26 : ∀ c j : Nat, c ≠ 6 → c ≠ 13 → c ≠ 12 → g24 c j = u5 c j := fun c j h6 h13 h12 => by rw [← eg25, gs_c _ _ _ _ h12, gs_c _ _ _ _ h13, gs_c _ _ _ _ h6]
    have v27 : g24 6 0 = x9.toInt := by rw [← eg25, gs_c _ _ _ _ (by decide), gs_c _ _ _ _ (by decide), gs_self]
    have v28 : g24 13 0 = (i21 : Int) := by rw [← eg25, gs_c _ _ _ _ (by decide), gs_self]
    have v29 : g24 12 0 = (i17 : Int) := by rw [← eg25, gs_self]
    refine lv_aload_n hx hb dX8_rules_58 rfl (lv_at hl 1 rfl) ?_
    refine get_X8_7 hx hb hA hown hE hG t_h0 wd_1_164 dX8_rules_59 (fun b30 i31 t_b30 h32 h32' => ?_)
    refine get_X6_4 hx hb hA hown hE hG t_b30 wd_1_88 dX8_rules_62 (fun x33 h34 => ?_)
    have hk36 : g24 10 i31 = u5 10 i31 := hf26 10 i31 (by decide) (by decide) (by decide)
    exact W.iret (v := x33) hx hb hr (fun t ht hW => ⟨⟨x33, g24, rfl, ⟨(fun c j h6 h9 h10 h11 h12 h13 h14 h15 h16 h17 h18 => by rw [hf26 c j h6 h13 h12, hf7 c j h9 h10 h11 h14 h15 h16 h17 h18]), (by omega)⟩, ok1 ht hG⟩, hS.F ht⟩) hS.2.2 dX8_rules_65
  · skip
    refine lv_aload_n hx hb dX8_rules_29 rfl (lv_at hl 0 rfl) ?_
    refine get_X8_6 hx hb hA hown hE hG t_h0 wd_1_163 dX8_rules_30 (fun b37 (t_b37 : ty Γ b37 7) => ?_)
    refine get_X4_2 hx hb hA hown hE hG t_b37 wd_1_46 dX8_rules_33 (fun x38 h39 => ?_)
    replace h39 : x38.toInt = u5 9 0 := by rw [h39]; simp [gs]
    refine lv_ineg hx hb dX8_rules_36 ?_
    refine lv_topi (fun x41 h42 => ?_)
    refine ty_iconst hx hb (1) dX8_rules_37 (by decide) (fun x43 h44 => ?_)
    refine ty_isub hx hb dX8_rules_38 (fun x45 h46 => ?_)
    try have h47 : x45.toInt = x41.toInt - x43.toInt := ty_sub h46 (by omega) (by omega)
    have e48 : (gs u5 6 0 x9.toInt) 6 0 = x9.toInt := by simp [gs]
    exact W.iret (v := x45) hx hb hr (fun t ht hW => ⟨⟨x45, (gs u5 6 0 x9.toInt), rfl, ⟨(fun c j h6 h9 h10 h11 h12 h13 h14 h15 h16 h17 h18 => by rw [gs_c _ _ _ _ h6, hf7 c j h9 h10 h11 h14 h15 h16 h17 h18]), (by omega)⟩, ok1 ht hG⟩, hS.F ht⟩) hS.2.2 dX8_rules_39
