set_option maxHeartbeats 4000000 in
set_option maxRecDepth 100000 in
/-- WeekBank$Reader.readRest:  -/
theorem k_X4_readRest (l : Launch) (dC : Nat → ClassId) (dI : Nat → Nat → Nat) (dA : Nat → ClassId) (sz : Nat) (X : va_W) (Γ : ty_G) (hU : Un Γ) (g : gh) (h0 : Nat) (t_h0 : ty Γ h0 7) (p1 ii : Nat) (t_p1 : Γ p1 = (6, ii)) (p2 : Int32) (T : Nat → Int) (N9 : Nat) (hp : 0 ≤ g 17 0 ∧ g 17 0 ≤ g 16 0 ∧ g 16 0 ≤ g 6 0 ∧ g 6 0 ≤ 300) (hT : g 19 = T) (hN : g 6 0 = (N9 : Int)) : Met l yX4_readRest (.code yX4_readRest cX4_readRest 7 (Option.none : Option Jvm.ClassFile.FieldType) :: AL) ({ frames := 6, cells := 0, slots := 0, locals := 128 }) (PCx dC dI dA sz X Γ g [.ref h0, .ref p1, .int p2]) (va_Qv (fun (u : gh) => (∀ c j : Nat, c ≠ 9 → c ≠ 11 → c ≠ 14 → c ≠ 15 → c ≠ 16 → c ≠ 17 → c ≠ 18 → u c j = g c j) ∧ ((0 ≤ u 17 0 ∧ u 17 0 ≤ u 16 0 ∧ u 16 0 ≤ g 6 0)) ∧ (pz_c u = (pz_R T N9 p2.toInt (pz_c g)).1)) (okb dC dI dA sz X Γ) (ty_A sz)) 0 0 (ty_A sz) := by
  refine Met.ofW (cc := cX4_readRest) (maxL := 7) (ret := (Option.none : Option Jvm.ClassFile.FieldType)) (by decide) rfl ?_
  intro p e s m args below meth c s₁ B hml hv
  obtain ⟨rfl, hG, hE⟩ := hv
  have hx := B.exec
  have hb := B.bytes
  have hr := B.returns
  have hts := atoms_spec B.pre
  have hA : ∀ w ∈ AL, w.before _ s = true := fun w h => hts w (List.mem_cons_of_mem _ h)
  have hown : s.vm.findClass RX4 = some m.cls := findClass_of_methodNamed B.named
  have hlocks := B.notSynchronized
  have hS : va_S (ty_A sz) s.heap s.heap [] := va_S.rf
  have hl := lv_entry ([.ref h0, .ref p1, .int p2]) (n := 7) (Nat.le_of_ble_eq_true rfl)
  rw [lg_entry_eq]
  generalize (lg_sl ([.ref h0, .ref p1, .int p2]) ++ List.replicate (7 - (lg_sl ([.ref h0, .ref p1, .int p2])).length) Slot.unset).toArray = ls at hl ⊢
  have hl : lv_has ls 7 [(0, .ref h0), (1, .ref p1), (2, .int p2)] := hl
  refine lv_iload_n hx hb dX4_readRest_0 rfl (lv_at hl 2 rfl) ?_
  by_cases c1 : p2.toInt < 1 ∨ 3 < p2.toInt
  · skip
    refine lv_tableOut (tgt := 114) hx hb dX4_readRest_1 c1 (by decide) ?_
    refine lv_aload_n hx hb dX4_readRest_114 rfl (lv_at hl 1 rfl) ?_
    refine lv_aload_n hx hb dX4_readRest_115 rfl (lv_at hl 0 rfl) ?_
    refine cI (va_runV (C := RX4) (As := []) (rest := [.ref p1]) ⟨hx, hb, hml, hown, hA⟩ (k_X4_expectBound l dC dI dA sz X Γ hU g h0 t_h0 T N9  (by omega) (hT) (by omega)) ⟨callB_of 0 hA (al_A wd_2_214) rfl rfl rfl (hA _ wd_1_2) (hA _ wd_2_211) (by decide +kernel) ⟨Nat.le_of_ble_eq_true rfl, Nat.le_of_ble_eq_true rfl⟩, hA _ wd_2_213, hA _ ws_12⟩ ⟨bl, recv_X4 hE hG t_h0, fun U hU9 hW9 => ⟨rfl, by rw [hU9]; exact hG, hE.go hS hU9 hW9⟩⟩ rfl rfl hl.1 rfl (lv_room (Nat.le_of_ble_eq_true rfl)) dX4_readRest_116 ⟨Nat.zero_le _, Nat.zero_le _⟩) hS (fun x4 u2 H locs w3 hG hS => ?_)
    obtain ⟨hf6, w3, hq5⟩ := w3
    refine put_X6_3 hx hb hA hown hE hG hS hU t_p1 wd_1_84 (by omega) dX4_readRest_119 (fun H locs hG hS => ?_)
    have e7 : (gs u2 11 ii x4.toInt) 16 0 = u2 16 0 := by simp [gs]
    have e8 : (gs u2 11 ii x4.toInt) 17 0 = u2 17 0 := by simp [gs]
    exact W.vret hx hb hr (fun t ht hW => ⟨⟨(gs u2 11 ii x4.toInt), rfl, ⟨(fun c j h9 h11 h14 h15 h16 h17 h18 => by rw [gs_c _ _ _ _ h11, hf6 c j h9 h14 h15 h16 h17 h18]), (by omega), (by rw [pz_R4 (show p2.toInt ≠ 1 by omega) (by omega) (by omega), ← hq5.1]; exact pz_c_cg (by rw [gs_c _ _ _ _ (by decide)]) (by rw [gs_c _ _ _ _ (by decide)]) (by rw [gs_c _ _ _ _ (by decide)]) (by rw [gs_c _ _ _ _ (by decide)]) (by rw [gs_c _ _ _ _ (by decide)]) (by rw [gs_c _ _ _ _ (by decide)]))⟩, ok1 ht hG⟩, hS.F ht⟩) hS.2.2 dX4_readRest_122
  · skip
    rcases (show p2.toInt = 1 ∨ p2.toInt = 2 ∨ p2.toInt = 3 by omega) with q9 | q10 | q11
    · skip
      refine lv_tableIn (tgt := 28) (off := 27) hx hb dX4_readRest_1 (by omega) (by omega) (by rw [q9]; rfl) (by decide) ?_
      refine lv_aload_n hx hb dX4_readRest_28 rfl (lv_at hl 0 rfl) ?_
      refine ty_iconst hx hb (0) dX4_readRest_29 (by decide) (fun x12 h13 => ?_)
      refine ty_bipush hx hb (52) dX4_readRest_30 (by decide) (fun x14 h15 => ?_)
      refine cI (va_runV (C := RX4) (As := [.int x12, .int x14]) (rest := []) ⟨hx, hb, hml, hown, hA⟩ (k_X4_expectNumber l dC dI dA sz X Γ hU g h0 t_h0 x12 x14 T N9  (by omega) (hT) (by omega)) ⟨callB_of 2 hA (al_A wd_2_193) rfl rfl rfl (hA _ wd_1_2) (hA _ wd_2_190) (by decide +kernel) ⟨Nat.le_of_ble_eq_true rfl, Nat.le_of_ble_eq_true rfl⟩, hA _ wd_2_192, hA _ ws_11⟩ ⟨bl, recv_X4 hE hG t_h0, fun U hU9 hW9 => ⟨rfl, by rw [hU9]; exact hG, hE.go hS hU9 hW9⟩⟩ rfl rfl hl.1 rfl (lv_room (Nat.le_of_ble_eq_true rfl)) dX4_readRest_32 ⟨Nat.zero_le _, Nat.zero_le _⟩) hS (fun x18 u16 H locs w17 hG hS => ?_)
      obtain ⟨hf20, w17, hq19⟩ := w17
      refine lv_istore_n (lv' := [(3, .int x18), (0, .ref h0), (1, .ref p1), (2, .int p2)]) hx hb dX4_readRest_35 rfl hl (by decide) rfl (fun ls hl => ?_)
      refine lv_aload_n hx hb dX4_readRest_36 rfl (lv_at hl 1 rfl) ?_
      refine lv_iload_n hx hb dX4_readRest_37 rfl (lv_at hl 0 rfl) ?_
      refine ty_bipush hx hb (52) dX4_readRest_38 (by decide) (fun x21 h22 => ?_)
      have hk23 : u16 6 0 = g 6 0 := hf20 6 0 (by decide) (by decide) (by decide) (by decide) (by decide) (by decide)
      refine cI (va_runV (C := RX4) (As := [.int x18, .int x21]) (rest := []) ⟨hx, hb, hml, hown, hA⟩ (k_X4_expectNumber l dC dI dA sz X Γ hU u16 h0 t_h0 x18 x21 T N9  (by omega) ((funext fun j => by rw [hf20 19 j (by decide) (by decide) (by decide) (by decide) (by decide) (by decide)]).trans hT) (by omega)) ⟨callB_of 2 hA (al_A wd_2_193) rfl rfl rfl (hA _ wd_1_2) (hA _ wd_2_190) (by decide +kernel) ⟨Nat.le_of_ble_eq_true rfl, Nat.le_of_ble_eq_true rfl⟩, hA _ wd_2_192, hA _ ws_11⟩ ⟨bl, recv_X4 hE hG t_h0, fun U hU9 hW9 => ⟨rfl, by rw [hU9]; exact hG, hE.go hS hU9 hW9⟩⟩ rfl rfl hl.1 rfl (lv_room (Nat.le_of_ble_eq_true rfl)) dX4_readRest_40 ⟨Nat.zero_le _, Nat.zero_le _⟩) hS (fun x26 u24 H locs w25 hG hS => ?_)
      obtain ⟨hf28, w25, hq27⟩ := w25
      refine lv_istore (lv' := [(4, .int x26), (3, .int x18), (0, .ref h0), (1, .ref p1), (2, .int p2)]) hx hb dX4_readRest_43 hl (by decide) rfl (fun ls hl => ?_)
      refine lv_aload_n hx hb dX4_readRest_45 rfl (lv_at hl 3 rfl) ?_
      refine lv_iload_n hx hb dX4_readRest_46 rfl (lv_at hl 1 rfl) ?_
      refine lv_iload hx hb dX4_readRest_47 (lv_at hl 0 rfl) ?_
      refine lv_aload_n hx hb dX4_readRest_49 rfl (lv_at hl 2 rfl) ?_
      refine ty_iconst hx hb (0) dX4_readRest_50 (by decide) (fun x29 h30 => ?_)
      refine ty_sipush hx hb (9999) dX4_readRest_51 (by decide) (fun x31 h32 => ?_)
      have hk33 : u24 6 0 = u16 6 0 := hf28 6 0 (by decide) (by decide) (by decide) (by decide) (by decide) (by decide)
      refine cI (va_runV (C := RX4) (As := [.int x29, .int x31]) (rest := [.int x26, .int x18, .ref p1]) ⟨hx, hb, hml, hown, hA⟩ (k_X4_expectNumber l dC dI dA sz X Γ hU u24 h0 t_h0 x29 x31 T N9  (by omega) ((funext fun j => by rw [hf28 19 j (by decide) (by decide) (by decide) (by decide) (by decide) (by decide), hf20 19 j (by decide) (by decide) (by decide) (by decide) (by decide) (by decide)]).trans hT) (by omega)) ⟨callB_of 2 hA (al_A wd_2_193) rfl rfl rfl (hA _ wd_1_2) (hA _ wd_2_190) (by decide +kernel) ⟨Nat.le_of_ble_eq_true rfl, Nat.le_of_ble_eq_true rfl⟩, hA _ wd_2_192, hA _ ws_11⟩ ⟨bl, recv_X4 hE hG t_h0, fun U hU9 hW9 => ⟨rfl, by rw [hU9]; exact hG, hE.go hS hU9 hW9⟩⟩ rfl rfl hl.1 rfl (lv_room (Nat.le_of_ble_eq_true rfl)) dX4_readRest_54 ⟨Nat.zero_le _, Nat.zero_le _⟩) hS (fun x36 u34 H locs w35 hG hS => ?_)
      obtain ⟨hf38, w35, hq37⟩ := w35
      refine cV (va_runV (C := RX6) (As := [.int x18, .int x26, .int x36]) (rest := []) ⟨hx, hb, hml, hown, hA⟩ (k_X6_setSeason l dC dI dA sz X Γ hU u34 p1 ii t_p1 x18 x26 x36   ) ⟨callB_of 3 hA (al_A wd_2_197) rfl rfl rfl (hA _ wd_1_3) (hA _ wd_2_194) (by decide +kernel) ⟨Nat.le_of_ble_eq_true rfl, Nat.le_of_ble_eq_true rfl⟩, hA _ wd_2_195, hA _ wd_2_196⟩ ⟨bl, recv_X6 hE hG (by rw [t_p1]), fun U hU9 hW9 => ⟨rfl, by rw [hU9]; exact hG, hE.go hS hU9 hW9⟩⟩ rfl rfl hl.1 rfl (lv_room (Nat.le_of_ble_eq_true rfl)) dX4_readRest_57 ⟨Nat.zero_le _, Nat.zero_le _⟩) hS (fun u39 H locs w40 hG hS => ?_)
      have eu41 := w40
      rw [eu41] at hG
      refine lv_goto (tgt := 122) hx hb dX4_readRest_60 (by decide) ?_
      exact W.vret hx hb hr (fun t ht hW => ⟨⟨u34, rfl, ⟨(fun c j h9 h11 h14 h15 h16 h17 h18 => by rw [hf38 c j h9 h14 h15 h16 h17 h18, hf28 c j h9 h14 h15 h16 h17 h18, hf20 c j h9 h14 h15 h16 h17 h18]), (by omega), (by have hA9 := hq19; rw [show x12.toInt = 0 by omega, show x14.toInt = 52 by omega] at hA9; have hB9 := hq27; rw [show x21.toInt = 52 by omega] at hB9; have hC9 := hq37; rw [show x29.toInt = 0 by omega, show x31.toInt = 9999 by omega] at hC9; rw [pz_R1 (show p2.toInt = 1 by omega), ← hA9.2, ← hA9.1, ← hB9.1]; exact hC9.1)⟩, ok1 ht hG⟩, hS.F ht⟩) hS.2.2 dX4_readRest_122
    · skip
      refine lv_tableIn (tgt := 63) (off := 62) hx hb dX4_readRest_1 (by omega) (by omega) (by rw [q10]; rfl) (by decide) ?_
      refine lv_aload_n hx hb dX4_readRest_63 rfl (lv_at hl 0 rfl) ?_
      refine ty_iconst hx hb (1) dX4_readRest_64 (by decide) (fun x42 h43 => ?_)
      refine ty_iconst hx hb (4) dX4_readRest_65 (by decide) (fun x44 h45 => ?_)
      refine cI (va_runV (C := RX4) (As := [.int x42, .int x44]) (rest := []) ⟨hx, hb, hml, hown, hA⟩ (k_X4_expectNumber l dC dI dA sz X Γ hU g h0 t_h0 x42 x44 T N9  (by omega) (hT) (by omega)) ⟨callB_of 2 hA (al_A wd_2_193) rfl rfl rfl (hA _ wd_1_2) (hA _ wd_2_190) (by decide +kernel) ⟨Nat.le_of_ble_eq_true rfl, Nat.le_of_ble_eq_true rfl⟩, hA _ wd_2_192, hA _ ws_11⟩ ⟨bl, recv_X4 hE hG t_h0, fun U hU9 hW9 => ⟨rfl, by rw [hU9]; exact hG, hE.go hS hU9 hW9⟩⟩ rfl rfl hl.1 rfl (lv_room (Nat.le_of_ble_eq_true rfl)) dX4_readRest_66 ⟨Nat.zero_le _, Nat.zero_le _⟩) hS (fun x48 u46 H locs w47 hG hS => ?_)
      obtain ⟨hf50, w47, hq49⟩ := w47
      refine lv_istore (lv' := [(5, .int x48), (0, .ref h0), (1, .ref p1), (2, .int p2)]) hx hb dX4_readRest_69 hl (by decide) rfl (fun ls hl => ?_)
      refine lv_aload_n hx hb dX4_readRest_71 rfl (lv_at hl 2 rfl) ?_
      refine lv_iload hx hb dX4_readRest_72 (lv_at hl 0 rfl) ?_
      refine lv_aload_n hx hb dX4_readRest_74 rfl (lv_at hl 1 rfl) ?_
      refine ty_iconst hx hb (0) dX4_readRest_75 (by decide) (fun x51 h52 => ?_)
      refine ty_sipush hx hb (9999) dX4_readRest_76 (by decide) (fun x53 h54 => ?_)
      have hk55 : u46 6 0 = g 6 0 := hf50 6 0 (by decide) (by decide) (by decide) (by decide) (by decide) (by decide)
      refine cI (va_runV (C := RX4) (As := [.int x51, .int x53]) (rest := [.int x48, .ref p1]) ⟨hx, hb, hml, hown, hA⟩ (k_X4_expectNumber l dC dI dA sz X Γ hU u46 h0 t_h0 x51 x53 T N9  (by omega) ((funext fun j => by rw [hf50 19 j (by decide) (by decide) (by decide) (by decide) (by decide) (by decide)]).trans hT) (by omega)) ⟨callB_of 2 hA (al_A wd_2_193) rfl rfl rfl (hA _ wd_1_2) (hA _ wd_2_190) (by decide +kernel) ⟨Nat.le_of_ble_eq_true rfl, Nat.le_of_ble_eq_true rfl⟩, hA _ wd_2_192, hA _ ws_11⟩ ⟨bl, recv_X4 hE hG t_h0, fun U hU9 hW9 => ⟨rfl, by rw [hU9]; exact hG, hE.go hS hU9 hW9⟩⟩ rfl rfl hl.1 rfl (lv_room (Nat.le_of_ble_eq_true rfl)) dX4_readRest_79 ⟨Nat.zero_le _, Nat.zero_le _⟩) hS (fun x58 u56 H locs w57 hG hS => ?_)
      obtain ⟨hf60, w57, hq59⟩ := w57
      refine cV (va_runV (C := RX6) (As := [.int x48, .int x58]) (rest := []) ⟨hx, hb, hml, hown, hA⟩ (k_X6_setSize l dC dI dA sz X Γ hU u56 p1 ii t_p1 x48 x58   ) ⟨callB_of 2 hA (al_A wd_2_204) rfl rfl rfl (hA _ wd_1_3) (hA _ wd_2_201) (by decide +kernel) ⟨Nat.le_of_ble_eq_true rfl, Nat.le_of_ble_eq_true rfl⟩, hA _ wd_2_202, hA _ wd_2_203⟩ ⟨bl, recv_X6 hE hG (by rw [t_p1]), fun U hU9 hW9 => ⟨rfl, by rw [hU9]; exact hG, hE.go hS hU9 hW9⟩⟩ rfl rfl hl.1 rfl (lv_room (Nat.le_of_ble_eq_true rfl)) dX4_readRest_82 ⟨Nat.zero_le _, Nat.zero_le _⟩) hS (fun u61 H locs w62 hG hS => ?_)
      have eu63 := w62
      rw [eu63] at hG
      refine lv_goto (tgt := 122) hx hb dX4_readRest_85 (by decide) ?_
      exact W.vret hx hb hr (fun t ht hW => ⟨⟨u56, rfl, ⟨(fun c j h9 h11 h14 h15 h16 h17 h18 => by rw [hf60 c j h9 h14 h15 h16 h17 h18, hf50 c j h9 h14 h15 h16 h17 h18]), (by omega), (by have hA9 := hq49; rw [show x42.toInt = 1 by omega, show x44.toInt = 4 by omega] at hA9; have hB9 := hq59; rw [show x51.toInt = 0 by omega, show x53.toInt = 9999 by omega] at hB9; rw [pz_R2 (show p2.toInt = 2 by omega), ← hA9.1]; exact hB9.1)⟩, ok1 ht hG⟩, hS.F ht⟩) hS.2.2 dX4_readRest_122
    · skip
      refine lv_tableIn (tgt := 88) (off := 87) hx hb dX4_readRest_1 (by omega) (by omega) (by rw [q11]; rfl) (by decide) ?_
      refine lv_aload_n hx hb dX4_readRest_88 rfl (lv_at hl 0 rfl) ?_
      refine ty_iconst hx hb (0) dX4_readRest_89 (by decide) (fun x64 h65 => ?_)
      refine ty_bipush hx hb (52) dX4_readRest_90 (by decide) (fun x66 h67 => ?_)
      refine cI (va_runV (C := RX4) (As := [.int x64, .int x66]) (rest := []) ⟨hx, hb, hml, hown, hA⟩ (k_X4_expectNumber l dC dI dA sz X Γ hU g h0 t_h0 x64 x66 T N9  (by omega) (hT) (by omega)) ⟨callB_of 2 hA (al_A wd_2_193) rfl rfl rfl (hA _ wd_1_2) (hA _ wd_2_190) (by decide +kernel) ⟨Nat.le_of_ble_eq_true rfl, Nat.le_of_ble_eq_true rfl⟩, hA _ wd_2_192, hA _ ws_11⟩ ⟨bl, recv_X4 hE hG t_h0, fun U hU9 hW9 => ⟨rfl, by rw [hU9]; exact hG, hE.go hS hU9 hW9⟩⟩ rfl rfl hl.1 rfl (lv_room (Nat.le_of_ble_eq_true rfl)) dX4_readRest_92 ⟨Nat.zero_le _, Nat.zero_le _⟩) hS (fun x70 u68 H locs w69 hG hS => ?_)
      obtain ⟨hf72, w69, hq71⟩ := w69
      refine lv_istore (lv' := [(6, .int x70), (0, .ref h0), (1, .ref p1), (2, .int p2)]) hx hb dX4_readRest_95 hl (by decide) rfl (fun ls hl => ?_)
      refine lv_aload_n hx hb dX4_readRest_97 rfl (lv_at hl 2 rfl) ?_
      refine lv_iload hx hb dX4_readRest_98 (lv_at hl 0 rfl) ?_
      refine lv_aload_n hx hb dX4_readRest_100 rfl (lv_at hl 1 rfl) ?_
      refine ty_iconst hx hb (0) dX4_readRest_101 (by decide) (fun x73 h74 => ?_)
      refine ty_sipush hx hb (9999) dX4_readRest_102 (by decide) (fun x75 h76 => ?_)
      have hk77 : u68 6 0 = g 6 0 := hf72 6 0 (by decide) (by decide) (by decide) (by decide) (by decide) (by decide)
      refine cI (va_runV (C := RX4) (As := [.int x73, .int x75]) (rest := [.int x70, .ref p1]) ⟨hx, hb, hml, hown, hA⟩ (k_X4_expectNumber l dC dI dA sz X Γ hU u68 h0 t_h0 x73 x75 T N9  (by omega) ((funext fun j => by rw [hf72 19 j (by decide) (by decide) (by decide) (by decide) (by decide) (by decide)]).trans hT) (by omega)) ⟨callB_of 2 hA (al_A wd_2_193) rfl rfl rfl (hA _ wd_1_2) (hA _ wd_2_190) (by decide +kernel) ⟨Nat.le_of_ble_eq_true rfl, Nat.le_of_ble_eq_true rfl⟩, hA _ wd_2_192, hA _ ws_11⟩ ⟨bl, recv_X4 hE hG t_h0, fun U hU9 hW9 => ⟨rfl, by rw [hU9]; exact hG, hE.go hS hU9 hW9⟩⟩ rfl rfl hl.1 rfl (lv_room (Nat.le_of_ble_eq_true rfl)) dX4_readRest_105 ⟨Nat.zero_le _, Nat.zero_le _⟩) hS (fun x80 u78 H locs w79 hG hS => ?_)
      obtain ⟨hf82, w79, hq81⟩ := w79
      refine cV (va_runV (C := RX6) (As := [.int x70, .int x80]) (rest := []) ⟨hx, hb, hml, hown, hA⟩ (k_X6_setEarly l dC dI dA sz X Γ hU u78 p1 ii t_p1 x70 x80   ) ⟨callB_of 2 hA (al_A wd_2_209) rfl rfl rfl (hA _ wd_1_3) (hA _ wd_2_206) (by decide +kernel) ⟨Nat.le_of_ble_eq_true rfl, Nat.le_of_ble_eq_true rfl⟩, hA _ wd_2_207, hA _ wd_2_208⟩ ⟨bl, recv_X6 hE hG (by rw [t_p1]), fun U hU9 hW9 => ⟨rfl, by rw [hU9]; exact hG, hE.go hS hU9 hW9⟩⟩ rfl rfl hl.1 rfl (lv_room (Nat.le_of_ble_eq_true rfl)) dX4_readRest_108 ⟨Nat.zero_le _, Nat.zero_le _⟩) hS (fun u83 H locs w84 hG hS => ?_)
      have eu85 := w84
      rw [eu85] at hG
      refine lv_goto (tgt := 122) hx hb dX4_readRest_111 (by decide) ?_
      exact W.vret hx hb hr (fun t ht hW => ⟨⟨u78, rfl, ⟨(fun c j h9 h11 h14 h15 h16 h17 h18 => by rw [hf82 c j h9 h14 h15 h16 h17 h18, hf72 c j h9 h14 h15 h16 h17 h18]), (by omega), (by have hA9 := hq71; rw [show x64.toInt = 0 by omega, show x66.toInt = 52 by omega] at hA9; have hB9 := hq81; rw [show x73.toInt = 0 by omega, show x75.toInt = 9999 by omega] at hB9; rw [pz_R3 (show p2.toInt = 3 by omega), ← hA9.1]; exact hB9.1)⟩, ok1 ht hG⟩, hS.F ht⟩) hS.2.2 dX4_readRest_122

set_option maxHeartbeats 4000000 in
set_option maxRecDepth 100000 in
/-- WeekBank$Reader.readStatement:  -/
theorem k_X4_readStatement (l : Launch) (dC : Nat → ClassId) (dI : Nat → Nat → Nat) (dA : Nat → ClassId) (sz : Nat) (X : va_W) (Γ : ty_G) (hU : Un Γ) (g : gh) (h0 : Nat) (t_h0 : ty Γ h0 7) (p1 ii : Nat) (t_p1 : Γ p1 = (6, ii)) (T : Nat → Int) (N9 : Nat) (hp : 0 ≤ g 17 0 ∧ g 17 0 ≤ g 16 0 ∧ g 16 0 ≤ g 6 0 ∧ g 6 0 ≤ 300) (hT : g 19 = T) (hN : g 6 0 = (N9 : Int)) (hc : 0 ≤ g 10 ii ∧ g 10 ii ≤ 31) : Met l yX4_readStatement (.code yX4_readStatement cX4_readStatement 3 (Option.none : Option Jvm.ClassFile.FieldType) :: AL) ({ frames := 7, cells := 0, slots := 0, locals := 154 }) (PCx dC dI dA sz X Γ g [.ref h0, .ref p1]) (va_Qv (fun (u : gh) => (∀ c j : Nat, c ≠ 9 → c ≠ 10 → c ≠ 11 → c ≠ 14 → c ≠ 15 → c ≠ 16 → c ≠ 17 → c ≠ 18 → u c j = g c j) ∧ ((0 ≤ u 17 0 ∧ u 17 0 ≤ u 16 0 ∧ u 16 0 ≤ g 6 0) ∧ (u 9 0 = 0 → u 10 ii = g 10 ii + 1)) ∧ (pz_c u = pz_st T N9 (g 10 ii) (pz_c g))) (okb dC dI dA sz X Γ) (ty_A sz)) 0 0 (ty_A sz) := by
  refine Met.ofW (cc := cX4_readStatement) (maxL := 3) (ret := (Option.none : Option Jvm.ClassFile.FieldType)) (by decide) rfl ?_
  intro p e s m args below meth c s₁ B hml hv
  obtain ⟨rfl, hG, hE⟩ := hv
  have hx := B.exec
  have hb := B.bytes
  have hr := B.returns
  have hts := atoms_spec B.pre
  have hA : ∀ w ∈ AL, w.before _ s = true := fun w h => hts w (List.mem_cons_of_mem _ h)
  have hown : s.vm.findClass RX4 = some m.cls := findClass_of_methodNamed B.named
  have hlocks := B.notSynchronized
  have hS : va_S (ty_A sz) s.heap s.heap [] := va_S.rf
  have hl := lv_entry ([.ref h0, .ref p1]) (n := 3) (Nat.le_of_ble_eq_true rfl)
  rw [lg_entry_eq]
  generalize (lg_sl ([.ref h0, .ref p1]) ++ List.replicate (3 - (lg_sl ([.ref h0, .ref p1])).length) Slot.unset).toArray = ls at hl ⊢
  have hl : lv_has ls 3 [(0, .ref h0), (1, .ref p1)] := hl
  refine lv_aload_n hx hb dX4_readStatement_0 rfl (lv_at hl 0 rfl) ?_
  refine cI (va_runV (C := RX4) (As := []) (rest := []) ⟨hx, hb, hml, hown, hA⟩ (k_X4_statementKind l dC dI dA sz X Γ hU g h0 t_h0 T N9  (by omega) (hT) (by omega)) ⟨callB_of 0 hA (al_A wd_2_125) rfl rfl rfl (hA _ wd_1_2) (hA _ wd_2_122) (by decide +kernel) ⟨Nat.le_of_ble_eq_true rfl, Nat.le_of_ble_eq_true rfl⟩, hA _ wd_2_124, hA _ ws_7⟩ ⟨bl, recv_X4 hE hG t_h0, fun U hU9 hW9 => ⟨rfl, by rw [hU9]; exact hG, hE.go hS hU9 hW9⟩⟩ rfl rfl hl.1 rfl (lv_room (Nat.le_of_ble_eq_true rfl)) dX4_readStatement_1 ⟨Nat.zero_le _, Nat.zero_le _⟩) hS (fun x3 u1 H locs w2 hG hS => ?_)
  obtain ⟨eu5, w2, hq4⟩ := w2
  rw [eu5] at hG
  refine lv_istore_n (lv' := [(2, .int x3), (0, .ref h0), (1, .ref p1)]) hx hb dX4_readStatement_4 rfl hl (by decide) rfl (fun ls hl => ?_)
  refine lv_iload_n hx hb dX4_readStatement_5 rfl (lv_at hl 0 rfl) ?_
  refine ty_if_ne (tgt := 15) hx hb dX4_readStatement_6 (by decide) (fun c6 => ?_) (fun c6 => ?_)
  · skip
    refine lv_aload_n hx hb dX4_readStatement_15 rfl (lv_at hl 2 rfl) ?_
    refine get_X6_4 hx hb hA hown hE hG t_p1 wd_1_87 dX4_readStatement_16 (fun x7 h8 => ?_)
    refine ty_bipush hx hb (30) dX4_readStatement_19 (by decide) (fun x10 h11 => ?_)
    refine ty_icmp_lt (tgt := 30) hx hb dX4_readStatement_21 (by decide) (fun c12 => ?_) (fun c12 => ?_)
    · skip
      refine lv_aload_n hx hb dX4_readStatement_30 rfl (lv_at hl 1 rfl) ?_
      refine cV (va_runV (C := RX4) (As := []) (rest := []) ⟨hx, hb, hml, hown, hA⟩ (k_X4_readToken l dC dI dA sz X Γ hU g h0 t_h0 T N9  (by omega) (hT) (by omega)) ⟨callB_of 0 hA (al_A wd_2_100) rfl rfl rfl (hA _ wd_1_2) (hA _ wd_2_97) (by decide +kernel) ⟨Nat.le_of_ble_eq_true rfl, Nat.le_of_ble_eq_true rfl⟩, hA _ wd_2_99, hA _ ws_3⟩ ⟨bl, recv_X4 hE hG t_h0, fun U hU9 hW9 => ⟨rfl, by rw [hU9]; exact hG, hE.go hS hU9 hW9⟩⟩ rfl rfl hl.1 rfl (lv_room (Nat.le_of_ble_eq_true rfl)) dX4_readStatement_31 ⟨Nat.zero_le _, Nat.zero_le _⟩) hS (fun u13 H locs w14 hG hS => ?_)
      obtain ⟨hf16, w14, hq15⟩ := w14
      refine lv_aload_n hx hb dX4_readStatement_34 rfl (lv_at hl 1 rfl) ?_
      refine lv_aload_n hx hb dX4_readStatement_35 rfl (lv_at hl 2 rfl) ?_
      refine lv_iload_n hx hb dX4_readStatement_36 rfl (lv_at hl 0 rfl) ?_
      have hk17 : u13 6 0 = g 6 0 := hf16 6 0 (by decide) (by decide) (by decide) (by decide)
      refine cV (va_runV (C := RX4) (As := [.ref p1, .int x3]) (rest := []) ⟨hx, hb, hml, hown, hA⟩ (k_X4_readRest l dC dI dA sz X Γ hU u13 h0 t_h0 p1 ii t_p1 x3 T N9  (by omega) ((funext fun j => by rw [hf16 19 j (by decide) (by decide) (by decide) (by decide)]).trans hT) (by omega)) ⟨callB_of 2 hA (al_A wd_2_189) rfl rfl rfl (hA _ wd_1_2) (hA _ wd_2_186) (by decide +kernel) ⟨Nat.le_of_ble_eq_true rfl, Nat.le_of_ble_eq_true rfl⟩, hA _ wd_2_188, hA _ ws_10⟩ ⟨bl, recv_X4 hE hG t_h0, fun U hU9 hW9 => ⟨rfl, by rw [hU9]; exact hG, hE.go hS hU9 hW9⟩⟩ rfl rfl hl.1 rfl (lv_room (Nat.le_of_ble_eq_true rfl)) dX4_readStatement_37 ⟨Nat.zero_le _, Nat.zero_le _⟩) hS (fun u18 H locs w19 hG hS => ?_)
      obtain ⟨hf21, w19, hq20⟩ := w19
      refine lv_aload_n hx hb dX4_readStatement_40 rfl (lv_at hl 1 rfl) ?_
      have hk22 : u18 6 0 = u13 6 0 := hf21 6 0 (by decide) (by decide) (by decide) (by decide) (by decide) (by decide) (by decide)
      refine cV (va_runV (C := RX4) (As := []) (rest := []) ⟨hx, hb, hml, hown, hA⟩ (k_X4_expectSign l dC dI dA sz X Γ hU u18 h0 t_h0 T N9  (by omega) ((funext fun j => by rw [hf21 19 j (by decide) (by decide) (by decide) (by decide) (by decide) (by decide) (by decide), hf16 19 j (by decide) (by decide) (by decide) (by decide)]).trans hT) (by omega)) ⟨callB_of 0 hA (al_A wd_2_220) rfl rfl rfl (hA _ wd_1_2) (hA _ wd_2_217) (by decide +kernel) ⟨Nat.le_of_ble_eq_true rfl, Nat.le_of_ble_eq_true rfl⟩, hA _ wd_2_219, hA _ ws_13⟩ ⟨bl, recv_X4 hE hG t_h0, fun U hU9 hW9 => ⟨rfl, by rw [hU9]; exact hG, hE.go hS hU9 hW9⟩⟩ rfl rfl hl.1 rfl (lv_room (Nat.le_of_ble_eq_true rfl)) dX4_readStatement_41 ⟨Nat.zero_le _, Nat.zero_le _⟩) hS (fun u23 H locs w24 hG hS => ?_)
      obtain ⟨hf26, w24, hq25⟩ := w24
      refine lv_aload_n hx hb dX4_readStatement_44 rfl (lv_at hl 2 rfl) ?_
      refine lv_dup hx hb dX4_readStatement_45 rfl ?_
      refine get_X6_4 hx hb hA hown hE hG t_p1 wd_1_87 dX4_readStatement_46 (fun x27 h28 => ?_)
      have hk30 : u23 10 ii = u18 10 ii := hf26 10 ii (by decide) (by decide) (by decide) (by decide) (by decide) (by decide)
      have hk31 : u18 10 ii = u13 10 ii := hf21 10 ii (by decide) (by decide) (by decide) (by decide) (by decide) (by decide) (by decide)
      have hk32 : u13 10 ii = g 10 ii := hf16 10 ii (by decide) (by decide) (by decide) (by decide)
      refine ty_iconst hx hb (1) dX4_readStatement_49 (by decide) (fun x33 h34 => ?_)
      refine ty_iadd hx hb dX4_readStatement_50 (fun x35 h36 => ?_)
      try have h37 : x35.toInt = x27.toInt + x33.toInt := ty_add h36 (by omega) (by omega)
      refine put_X6_4 hx hb hA hown hE hG hS hU t_p1 wd_1_87 dX4_readStatement_51 (fun H locs hG hS => ?_)
      have e38 : (gs u23 10 ii x35.toInt) 9 0 = u23 9 0 := by simp [gs]
      have e39 : (gs u23 10 ii x35.toInt) 10 ii = x35.toInt := by simp [gs]
      have e40 : (gs u23 10 ii x35.toInt) 16 0 = u23 16 0 := by simp [gs]
      have e41 : (gs u23 10 ii x35.toInt) 17 0 = u23 17 0 := by simp [gs]
      exact W.vret hx hb hr (fun t ht hW => ⟨⟨(gs u23 10 ii x35.toInt), rfl, ⟨(fun c j h9 h10 h11 h14 h15 h16 h17 h18 => by rw [gs_c _ _ _ _ h10, hf26 c j h9 h14 h15 h16 h17 h18, hf21 c j h9 h11 h14 h15 h16 h17 h18, hf16 c j h15 h16 h17 h18]), (by omega), (by rw [pz_st3 (x := pz_c g) (show pz_k T (pz_c g) ≠ 0 by rw [hq4]; omega) (by omega), hq4, ← hq15, ← hq20, ← hq25]; exact pz_c_cg (by rw [gs_c _ _ _ _ (by decide)]) (by rw [gs_c _ _ _ _ (by decide)]) (by rw [gs_c _ _ _ _ (by decide)]) (by rw [gs_c _ _ _ _ (by decide)]) (by rw [gs_c _ _ _ _ (by decide)]) (by rw [gs_c _ _ _ _ (by decide)]))⟩, ok1 ht hG⟩, hS.F ht⟩) hS.2.2 dX4_readStatement_54
    · skip
      refine lv_aload_n hx hb dX4_readStatement_24 rfl (lv_at hl 1 rfl) ?_
      refine ty_iconst hx hb (3) dX4_readStatement_25 (by decide) (fun x42 h43 => ?_)
      refine cV (va_runV (C := RX4) (As := [.int x42]) (rest := []) ⟨hx, hb, hml, hown, hA⟩ (k_X4_blame l dC dI dA sz X Γ hU g h0 t_h0 x42   ) ⟨callB_of 1 hA (al_A wd_2_185) rfl rfl rfl (hA _ wd_1_2) (hA _ wd_2_182) (by decide +kernel) ⟨Nat.le_of_ble_eq_true rfl, Nat.le_of_ble_eq_true rfl⟩, hA _ wd_2_184, hA _ ws_9⟩ ⟨bl, recv_X4 hE hG t_h0, fun U hU9 hW9 => ⟨rfl, by rw [hU9]; exact hG, hE.go hS hU9 hW9⟩⟩ rfl rfl hl.1 rfl (lv_room (Nat.le_of_ble_eq_true rfl)) dX4_readStatement_26 ⟨Nat.zero_le _, Nat.zero_le _⟩) hS (fun u44 H locs w45 hG hS => ?_)
      obtain ⟨hf47, w45, hq46⟩ := w45
      have hk48 : u44 10 ii = g 10 ii := hf47 10 ii (by decide) (by decide)
      have hk49 : u44 16 0 = g 16 0 := hf47 16 0 (by decide) (by decide)
      have hk50 : u44 17 0 = g 17 0 := hf47 17 0 (by decide) (by decide)
      exact W.vret hx hb hr (fun t ht hW => ⟨⟨u44, rfl, ⟨(fun c j h9 h10 h11 h14 h15 h16 h17 h18 => by rw [hf47 c j h9 h14]), (by omega), (by rw [pz_st2 (x := pz_c g) (show pz_k T (pz_c g) ≠ 0 by rw [hq4]; omega) (by omega), hq46, show x42.toInt = 3 by omega])⟩, ok1 ht hG⟩, hS.F ht⟩) hS.2.2 dX4_readStatement_29
  · skip
    refine lv_aload_n hx hb dX4_readStatement_9 rfl (lv_at hl 1 rfl) ?_
    refine ty_iconst hx hb (1) dX4_readStatement_10 (by decide) (fun x51 h52 => ?_)
    refine cV (va_runV (C := RX4) (As := [.int x51]) (rest := []) ⟨hx, hb, hml, hown, hA⟩ (k_X4_blame l dC dI dA sz X Γ hU g h0 t_h0 x51   ) ⟨callB_of 1 hA (al_A wd_2_185) rfl rfl rfl (hA _ wd_1_2) (hA _ wd_2_182) (by decide +kernel) ⟨Nat.le_of_ble_eq_true rfl, Nat.le_of_ble_eq_true rfl⟩, hA _ wd_2_184, hA _ ws_9⟩ ⟨bl, recv_X4 hE hG t_h0, fun U hU9 hW9 => ⟨rfl, by rw [hU9]; exact hG, hE.go hS hU9 hW9⟩⟩ rfl rfl hl.1 rfl (lv_room (Nat.le_of_ble_eq_true rfl)) dX4_readStatement_11 ⟨Nat.zero_le _, Nat.zero_le _⟩) hS (fun u53 H locs w54 hG hS => ?_)
    obtain ⟨hf56, w54, hq55⟩ := w54
    have hk57 : u53 10 ii = g 10 ii := hf56 10 ii (by decide) (by decide)
    have hk58 : u53 16 0 = g 16 0 := hf56 16 0 (by decide) (by decide)
    have hk59 : u53 17 0 = g 17 0 := hf56 17 0 (by decide) (by decide)
    exact W.vret hx hb hr (fun t ht hW => ⟨⟨u53, rfl, ⟨(fun c j h9 h10 h11 h14 h15 h16 h17 h18 => by rw [hf56 c j h9 h14]), (by omega), (by rw [pz_st1 (x := pz_c g) (show pz_k T (pz_c g) = 0 by rw [hq4]; omega), hq55, show x51.toInt = 1 by omega])⟩, ok1 ht hG⟩, hS.F ht⟩) hS.2.2 dX4_readStatement_14

set_option maxHeartbeats 4000000 in
set_option maxRecDepth 100000 in
/-- WeekBank$Rules.clear:  -/
theorem k_X6_clear (l : Launch) (dC : Nat → ClassId) (dI : Nat → Nat → Nat) (dA : Nat → ClassId) (sz : Nat) (X : va_W) (Γ : ty_G) (hU : Un Γ) (g : gh) (h0 ii : Nat) (t_h0 : Γ h0 = (6, ii)) : Met l yX6_clear (.code yX6_clear cX6_clear 1 (Option.none : Option Jvm.ClassFile.FieldType) :: AL) ({ frames := 1, cells := 0, slots := 0, locals := 23 }) (PCx dC dI dA sz X Γ g [.ref h0]) (va_Qv (fun (u : gh) => (∀ c j : Nat, c ≠ 10 → c ≠ 11 → u c j = g c j) ∧ ((u 10 ii = 0) ∧ (u 11 ii = 0))) (okb dC dI dA sz X Γ) (ty_A sz)) 0 0 (ty_A sz) := by
  refine Met.ofW (cc := cX6_clear) (maxL := 1) (ret := (Option.none : Option Jvm.ClassFile.FieldType)) (by decide) rfl ?_
  intro p e s m args below meth c s₁ B hml hv
  obtain ⟨rfl, hG, hE⟩ := hv
  have hx := B.exec
  have hb := B.bytes
  have hr := B.returns
  have hts := atoms_spec B.pre
  have hA : ∀ w ∈ AL, w.before _ s = true := fun w h => hts w (List.mem_cons_of_mem _ h)
  have hown : s.vm.findClass RX6 = some m.cls := findClass_of_methodNamed B.named
  have hlocks := B.notSynchronized
  have hS : va_S (ty_A sz) s.heap s.heap [] := va_S.rf
  have hl := lv_entry ([.ref h0]) (n := 1) (Nat.le_of_ble_eq_true rfl)
  rw [lg_entry_eq]
  generalize (lg_sl ([.ref h0]) ++ List.replicate (1 - (lg_sl ([.ref h0])).length) Slot.unset).toArray = ls at hl ⊢
  have hl : lv_has ls 1 [(0, .ref h0)] := hl
  refine lv_aload_n hx hb dX6_clear_0 rfl (lv_at hl 0 rfl) ?_
  refine get_X6_0 hx hb hA hown hE hG t_h0 wd_1_80 dX6_clear_1 (fun b1 t_b1 => ?_)
  refine ty_iconst hx hb (0) dX6_clear_4 (by decide) (fun x2 h3 => ?_)
  refine cV (va_runS (As := [.ref b1, .int x2]) (rest := []) ⟨hx, hb, hml, hown, hA⟩ (k_fill_16 l dC dI dA sz X Γ hU g b1 ii t_b1 x2   ) ⟨callB_of 2 hA (al_A wd_1_79) rfl rfl rfl (hA _ wd_1_4) (hA _ wd_1_77) (by decide +kernel) ⟨Nat.le_of_ble_eq_true rfl, Nat.le_of_ble_eq_true rfl⟩, hA _ wd_1_78⟩ ⟨bl, fun U hU9 hW9 => ⟨rfl, by rw [hU9]; exact hG, hE.go hS hU9 hW9⟩⟩ rfl rfl hl.1 rfl (lv_room (Nat.le_of_ble_eq_true rfl)) dX6_clear_5 ⟨Nat.zero_le _, Nat.zero_le _⟩) hS (fun u4 H locs w5 hG hS => ?_)
  have eu6 := w5
  rw [eu6] at hG
  refine lv_aload_n hx hb dX6_clear_8 rfl (lv_at hl 0 rfl) ?_
  refine get_X6_1 hx hb hA hown hE hG t_h0 wd_1_81 dX6_clear_9 (fun b7 t_b7 => ?_)
  refine ty_iconst hx hb (0) dX6_clear_12 (by decide) (fun x8 h9 => ?_)
  refine cV (va_runS (As := [.ref b7, .int x8]) (rest := []) ⟨hx, hb, hml, hown, hA⟩ (k_fill_17 l dC dI dA sz X Γ hU g b7 ii t_b7 x8   ) ⟨callB_of 2 hA (al_A wd_1_79) rfl rfl rfl (hA _ wd_1_4) (hA _ wd_1_77) (by decide +kernel) ⟨Nat.le_of_ble_eq_true rfl, Nat.le_of_ble_eq_true rfl⟩, hA _ wd_1_78⟩ ⟨bl, fun U hU9 hW9 => ⟨rfl, by rw [hU9]; exact hG, hE.go hS hU9 hW9⟩⟩ rfl rfl hl.1 rfl (lv_room (Nat.le_of_ble_eq_true rfl)) dX6_clear_13 ⟨Nat.zero_le _, Nat.zero_le _⟩) hS (fun u10 H locs w11 hG hS => ?_)
  have eu12 := w11
  rw [eu12] at hG
  refine lv_aload_n hx hb dX6_clear_16 rfl (lv_at hl 0 rfl) ?_
  refine get_X6_2 hx hb hA hown hE hG t_h0 wd_1_82 dX6_clear_17 (fun b13 t_b13 => ?_)
  refine ty_iconst hx hb (-1) dX6_clear_20 (by decide) (fun x14 h15 => ?_)
  refine cV (va_runS (As := [.ref b13, .int x14]) (rest := []) ⟨hx, hb, hml, hown, hA⟩ (k_fill_26 l dC dI dA sz X Γ hU g b13 ii t_b13 x14   ) ⟨callB_of 2 hA (al_A wd_1_79) rfl rfl rfl (hA _ wd_1_4) (hA _ wd_1_77) (by decide +kernel) ⟨Nat.le_of_ble_eq_true rfl, Nat.le_of_ble_eq_true rfl⟩, hA _ wd_1_78⟩ ⟨bl, fun U hU9 hW9 => ⟨rfl, by rw [hU9]; exact hG, hE.go hS hU9 hW9⟩⟩ rfl rfl hl.1 rfl (lv_room (Nat.le_of_ble_eq_true rfl)) dX6_clear_21 ⟨Nat.zero_le _, Nat.zero_le _⟩) hS (fun u16 H locs w17 hG hS => ?_)
  have eu18 := w17
  rw [eu18] at hG
  refine lv_aload_n hx hb dX6_clear_24 rfl (lv_at hl 0 rfl) ?_
  refine ty_iconst hx hb (0) dX6_clear_25 (by decide) (fun x19 h20 => ?_)
  refine put_X6_3 hx hb hA hown hE hG hS hU t_h0 wd_1_83 (by omega) dX6_clear_26 (fun H locs hG hS => ?_)
  refine lv_aload_n hx hb dX6_clear_29 rfl (lv_at hl 0 rfl) ?_
  refine ty_iconst hx hb (0) dX6_clear_30 (by decide) (fun x21 h22 => ?_)
  refine put_X6_4 hx hb hA hown hE hG hS hU t_h0 wd_1_86 dX6_clear_31 (fun H locs hG hS => ?_)
  have e23 : (gs (gs g 11 ii x19.toInt) 10 ii x21.toInt) 10 ii = x21.toInt := by simp [gs]
  have e24 : (gs (gs g 11 ii x19.toInt) 10 ii x21.toInt) 11 ii = x19.toInt := by simp [gs]
  exact W.vret hx hb hr (fun t ht hW => ⟨⟨(gs (gs g 11 ii x19.toInt) 10 ii x21.toInt), rfl, ⟨(fun c j h10 h11 => by rw [gs_c _ _ _ _ h10, gs_c _ _ _ _ h11]), (by omega)⟩, ok1 ht hG⟩, hS.F ht⟩) hS.2.2 dX6_clear_34

set_option maxHeartbeats 4000000 in
set_option maxRecDepth 100000 in
/-- WeekBank$Reader.readInto:  -/
theorem k_X4_readInto (l : Launch) (dC : Nat → ClassId) (dI : Nat → Nat → Nat) (dA : Nat → ClassId) (sz : Nat) (X : va_W) (Γ : ty_G) (hU : Un Γ) (g : gh) (h0 : Nat) (t_h0 : ty Γ h0 7) (p1 ii : Nat) (t_p1 : Γ p1 = (6, ii)) (T : Nat → Int) (N9 : Nat) (hp : 0 ≤ g 6 0 ∧ g 6 0 ≤ 300) (hT : g 19 = T) (hN : g 6 0 = (N9 : Int)) : Met l yX4_readInto (.code yX4_readInto cX4_readInto 3 (Option.none : Option Jvm.ClassFile.FieldType) :: AL) ({ frames := 8, cells := 0, slots := 0, locals := 176 }) (PCx dC dI dA sz X Γ g [.ref h0, .ref p1]) (va_Qv (fun (u : gh) => (∀ c j : Nat, c ≠ 9 → c ≠ 10 → c ≠ 11 → c ≠ 14 → c ≠ 15 → c ≠ 16 → c ≠ 17 → c ≠ 18 → u c j = g c j) ∧ (pz_c u = (pz_Z T N9 (g 18 0)).1 ∧ (u 9 0 = 0 → u 10 ii = (pz_Z T N9 (g 18 0)).2))) (okb dC dI dA sz X Γ) (ty_A sz)) 0 0 (ty_A sz) := by
  refine Met.ofW (cc := cX4_readInto) (maxL := 3) (ret := (Option.none : Option Jvm.ClassFile.FieldType)) (by decide) rfl ?_
  intro p e s m args below meth c s₁ B hml hv
  obtain ⟨rfl, hG, hE⟩ := hv
  have hx := B.exec
  have hb := B.bytes
  have hr := B.returns
  have hts := atoms_spec B.pre
  have hA : ∀ w ∈ AL, w.before _ s = true := fun w h => hts w (List.mem_cons_of_mem _ h)
  have hown : s.vm.findClass RX4 = some m.cls := findClass_of_methodNamed B.named
  have hlocks := B.notSynchronized
  have hS : va_S (ty_A sz) s.heap s.heap [] := va_S.rf
  have hl := lv_entry ([.ref h0, .ref p1]) (n := 3) (Nat.le_of_ble_eq_true rfl)
  rw [lg_entry_eq]
  generalize (lg_sl ([.ref h0, .ref p1]) ++ List.replicate (3 - (lg_sl ([.ref h0, .ref p1])).length) Slot.unset).toArray = ls at hl ⊢
  have hl : lv_has ls 3 [(0, .ref h0), (1, .ref p1)] := hl
  refine lv_aload_n hx hb dX4_readInto_0 rfl (lv_at hl 1 rfl) ?_
  refine cV (va_runV (C := RX6) (As := []) (rest := []) ⟨hx, hb, hml, hown, hA⟩ (k_X6_clear l dC dI dA sz X Γ hU g p1 ii t_p1   ) ⟨callB_of 0 hA (al_A wd_2_96) rfl rfl rfl (hA _ wd_1_3) (hA _ wd_2_93) (by decide +kernel) ⟨Nat.le_of_ble_eq_true rfl, Nat.le_of_ble_eq_true rfl⟩, hA _ wd_2_94, hA _ wd_2_95⟩ ⟨bl, recv_X6 hE hG (by rw [t_p1]), fun U hU9 hW9 => ⟨rfl, by rw [hU9]; exact hG, hE.go hS hU9 hW9⟩⟩ rfl rfl hl.1 rfl (lv_room (Nat.le_of_ble_eq_true rfl)) dX4_readInto_1 ⟨Nat.zero_le _, Nat.zero_le _⟩) hS (fun u1 H locs w2 hG hS => ?_)
  obtain ⟨hf3, w2⟩ := w2
  refine lv_aload_n hx hb dX4_readInto_4 rfl (lv_at hl 0 rfl) ?_
  refine ty_iconst hx hb (0) dX4_readInto_5 (by decide) (fun x4 h5 => ?_)
  refine put_X4_2 hx hb hA hown hE hG hS hU t_h0 wd_1_45 dX4_readInto_6 (fun H locs hG hS => ?_)
  refine lv_aload_n hx hb dX4_readInto_9 rfl (lv_at hl 0 rfl) ?_
  refine ty_iconst hx hb (-1) dX4_readInto_10 (by decide) (fun x6 h7 => ?_)
  refine put_X4_3 hx hb hA hown hE hG hS hU t_h0 wd_1_47 dX4_readInto_11 (fun H locs hG hS => ?_)
  refine lv_aload_n hx hb dX4_readInto_14 rfl (lv_at hl 0 rfl) ?_
  refine ty_iconst hx hb (0) dX4_readInto_15 (by decide) (fun x8 h9 => ?_)
  refine put_X4_4 hx hb hA hown hE hG hS hU t_h0 wd_1_49 dX4_readInto_16 (fun H locs hG hS => ?_)
  generalize eg11 : (gs (gs (gs u1 9 0 x4.toInt) 14 0 x6.toInt) 16 0 x8.toInt) = g10 at hG
  have hf12 : ∀ c j : Nat, c ≠ 9 → c ≠ 14 → c ≠ 16 → g10 c j = u1 c j := fun c j h9 h14 h16 => by rw [← eg11, gs_c _ _ _ _ h16, gs_c _ _ _ _ h14, gs_c _ _ _ _ h9]
  have v13 : g10 9 0 = x4.toInt := by rw [← eg11, gs_c _ _ _ _ (by decide), gs_c _ _ _ _ (by decide), gs_self]
  have v14 : g10 14 0 = x6.toInt := by rw [← eg11, gs_c _ _ _ _ (by decide), gs_self]
  have v15 : g10 16 0 = x8.toInt := by rw [← eg11, gs_self]
  refine lv_aload_n hx hb dX4_readInto_19 rfl (lv_at hl 0 rfl) ?_
  have hk16 : g10 17 0 = u1 17 0 := hf12 17 0 (by decide) (by decide) (by decide)
  have hk17 : u1 17 0 = g 17 0 := hf3 17 0 (by decide) (by decide)
  have hk18 : g10 15 0 = u1 15 0 := hf12 15 0 (by decide) (by decide) (by decide)
  have hk19 : u1 15 0 = g 15 0 := hf3 15 0 (by decide) (by decide)
  have hk20 : g10 18 0 = u1 18 0 := hf12 18 0 (by decide) (by decide) (by decide)
  have hk21 : u1 18 0 = g 18 0 := hf3 18 0 (by decide) (by decide)
  have hk22 : g10 6 0 = u1 6 0 := hf12 6 0 (by decide) (by decide) (by decide)
  have hk23 : u1 6 0 = g 6 0 := hf3 6 0 (by decide) (by decide)
  refine cV (va_runV (C := RX4) (As := []) (rest := []) ⟨hx, hb, hml, hown, hA⟩ (k_X4_readToken l dC dI dA sz X Γ hU g10 h0 t_h0 T N9  (by omega) ((funext fun j => by rw [hf12 19 j (by decide) (by decide) (by decide), hf3 19 j (by decide) (by decide)]).trans hT) (by omega)) ⟨callB_of 0 hA (al_A wd_2_100) rfl rfl rfl (hA _ wd_1_2) (hA _ wd_2_97) (by decide +kernel) ⟨Nat.le_of_ble_eq_true rfl, Nat.le_of_ble_eq_true rfl⟩, hA _ wd_2_99, hA _ ws_3⟩ ⟨bl, recv_X4 hE hG t_h0, fun U hU9 hW9 => ⟨rfl, by rw [hU9]; exact hG, hE.go hS hU9 hW9⟩⟩ rfl rfl hl.1 rfl (lv_room (Nat.le_of_ble_eq_true rfl)) dX4_readInto_20 ⟨Nat.zero_le _, Nat.zero_le _⟩) hS (fun u24 H locs w25 hG hS => ?_)
  obtain ⟨hf27, w25, hq26⟩ := w25
  have hk28 : u24 10 ii = g10 10 ii := hf27 10 ii (by decide) (by decide) (by decide) (by decide)
  have hk29 : g10 10 ii = u1 10 ii := hf12 10 ii (by decide) (by decide) (by decide)
  have hz9 : pz_c u24 = pz_nx T N9 (0, 0, 0, g 18 0, 0, -1) := by rw [hq26]; exact congrArg (pz_nx T N9) rfl |>.trans (show pz_nx T N9 (g10 16 0, g10 17 0, g10 15 0, g10 18 0, g10 9 0, g10 14 0) = _ by rw [show g10 16 0 = 0 by omega, show g10 18 0 = g 18 0 by omega, show g10 9 0 = 0 by omega, show g10 14 0 = -1 by omega]; exact pz_nx_st)
  refine ty_iconst hx hb (0) dX4_readInto_23 (by decide) (fun x30 h31 => ?_)
  refine lv_istore_n (lv' := [(2, .int x30), (0, .ref h0), (1, .ref p1)]) hx hb dX4_readInto_24 rfl hl (by decide) rfl (fun ls hl => ?_)
  have L_25 : ∀ (n : Nat) (v2_25 : Int32) (g32 : gh) (H : Heap) (locs : List Loc) (ls : Array Slot), (31 - v2_25.toInt : Int) < n → 0 ≤ v2_25.toInt ∧ v2_25.toInt ≤ 31 → 0 ≤ g32 17 0 ∧ g32 17 0 ≤ g32 16 0 ∧ g32 16 0 ≤ g32 6 0 ∧ g32 6 0 ≤ 300 → (g32 9 0 = 0 → g32 10 ii = v2_25.toInt) → (∀ c j : Nat, c ≠ 9 → c ≠ 10 → c ≠ 11 → c ≠ 14 → c ≠ 15 → c ≠ 16 → c ≠ 17 → c ≠ 18 → g32 c j = u24 c j) → (pz_L T N9 (31 - v2_25.toInt.toNat) v2_25.toInt (pz_c g32) = pz_Z T N9 (g 18 0)) → ty_ok (dC, dI) vwCl Γ (TP dA Γ g32) sz X H → va_S (ty_A sz) s.heap H locs → lv_has ls 3 [(2, .int v2_25), (0, .ref h0), (1, .ref p1)] → W p l e (headSpec (.code yX4_readInto cX4_readInto 3 (Option.none : Option Jvm.ClassFile.FieldType) :: AL) ({ frames := 8, cells := 0, slots := 0, locals := 176 })).room s m ([.ref h0, .ref p1] : List Value).toArray below meth c H locs 0 0 (MQ below (va_Qv (fun (u : gh) => (∀ c j : Nat, c ≠ 9 → c ≠ 10 → c ≠ 11 → c ≠ 14 → c ≠ 15 → c ≠ 16 → c ≠ 17 → c ≠ 18 → u c j = g c j) ∧ (pz_c u = (pz_Z T N9 (g 18 0)).1 ∧ (u 9 0 = 0 → u 10 ii = (pz_Z T N9 (g 18 0)).2))) (okb dC dI dA sz X Γ) (ty_A sz)) ([.ref h0, .ref p1] : List Value).toArray s 0 0 (ty_A sz)) (F0 m 25 ls []) := by
    intro n
    induction n with
    | zero => intro v2_25 g32 H locs ls hm hi0 hi1 hi2 hf33 hq0 hG hS hl; exfalso; omega
    | succ n ih_25 =>
      intro v2_25 g32 H locs ls hm hi0 hi1 hi2 hf33 hq0 hG hS hl
      have hk34 : g32 6 0 = u24 6 0 := hf33 6 0 (by decide) (by decide) (by decide) (by decide) (by decide) (by decide) (by decide) (by decide)
      have hk35 : u24 6 0 = g10 6 0 := hf27 6 0 (by decide) (by decide) (by decide) (by decide)
      refine lv_iload_n hx hb dX4_readInto_25 rfl (lv_at hl 0 rfl) ?_
      refine ty_bipush hx hb (30) dX4_readInto_26 (by decide) (fun x36 h37 => ?_)
      refine ty_icmp_gt (tgt := 56) hx hb dX4_readInto_28 (by decide) (fun c38 => ?_) (fun c38 => ?_)
      · skip
        exact W.vret hx hb hr (fun t ht hW => ⟨⟨g32, rfl, ⟨(fun c j h9 h10 h11 h14 h15 h16 h17 h18 => by rw [hf33 c j h9 h10 h11 h14 h15 h16 h17 h18, hf27 c j h15 h16 h17 h18, hf12 c j h9 h14 h16, hf3 c j h10 h11]), (by have h9 : pz_L T N9 (31 - v2_25.toInt.toNat) v2_25.toInt (pz_c g32) = (pz_c g32, v2_25.toInt) := (by first | exact pz_L_no (x := pz_c g32) (fun q => absurd q.1 (show ¬ g32 15 0 ≠ 0 by omega)) | exact pz_L_no (x := pz_c g32) (fun q => absurd q.2 (show ¬ g32 9 0 = 0 by omega)) | (rw [show 31 - v2_25.toInt.toNat = 0 by omega]; rfl)); rw [hq0] at h9; rw [h9]; exact ⟨rfl, fun q => (show g32 10 ii = v2_25.toInt by omega)⟩)⟩, ok1 ht hG⟩, hS.F ht⟩) hS.2.2 dX4_readInto_56
      · skip
        refine lv_aload_n hx hb dX4_readInto_31 rfl (lv_at hl 1 rfl) ?_
        refine get_X4_5 hx hb hA hown hE hG t_h0 wd_1_50 dX4_readInto_32 (fun x39 h40 => ?_)
        refine ty_if_eq (tgt := 56) hx hb dX4_readInto_35 (by decide) (fun c42 => ?_) (fun c42 => ?_)
        · skip
          exact W.vret hx hb hr (fun t ht hW => ⟨⟨g32, rfl, ⟨(fun c j h9 h10 h11 h14 h15 h16 h17 h18 => by rw [hf33 c j h9 h10 h11 h14 h15 h16 h17 h18, hf27 c j h15 h16 h17 h18, hf12 c j h9 h14 h16, hf3 c j h10 h11]), (by have h9 : pz_L T N9 (31 - v2_25.toInt.toNat) v2_25.toInt (pz_c g32) = (pz_c g32, v2_25.toInt) := (by first | exact pz_L_no (x := pz_c g32) (fun q => absurd q.1 (show ¬ g32 15 0 ≠ 0 by omega)) | exact pz_L_no (x := pz_c g32) (fun q => absurd q.2 (show ¬ g32 9 0 = 0 by omega)) | (rw [show 31 - v2_25.toInt.toNat = 0 by omega]; rfl)); rw [hq0] at h9; rw [h9]; exact ⟨rfl, fun q => (show g32 10 ii = v2_25.toInt by omega)⟩)⟩, ok1 ht hG⟩, hS.F ht⟩) hS.2.2 dX4_readInto_56
        · skip
          refine lv_aload_n hx hb dX4_readInto_38 rfl (lv_at hl 1 rfl) ?_
          refine get_X4_2 hx hb hA hown hE hG t_h0 wd_1_45 dX4_readInto_39 (fun x43 h44 => ?_)
          refine ty_if_ne (tgt := 56) hx hb dX4_readInto_42 (by decide) (fun c46 => ?_) (fun c46 => ?_)
          · skip
            exact W.vret hx hb hr (fun t ht hW => ⟨⟨g32, rfl, ⟨(fun c j h9 h10 h11 h14 h15 h16 h17 h18 => by rw [hf33 c j h9 h10 h11 h14 h15 h16 h17 h18, hf27 c j h15 h16 h17 h18, hf12 c j h9 h14 h16, hf3 c j h10 h11]), (by have h9 : pz_L T N9 (31 - v2_25.toInt.toNat) v2_25.toInt (pz_c g32) = (pz_c g32, v2_25.toInt) := (by first | exact pz_L_no (x := pz_c g32) (fun q => absurd q.1 (show ¬ g32 15 0 ≠ 0 by omega)) | exact pz_L_no (x := pz_c g32) (fun q => absurd q.2 (show ¬ g32 9 0 = 0 by omega)) | (rw [show 31 - v2_25.toInt.toNat = 0 by omega]; rfl)); rw [hq0] at h9; rw [h9]; exact ⟨rfl, fun q => (show g32 10 ii = v2_25.toInt by omega)⟩)⟩, ok1 ht hG⟩, hS.F ht⟩) hS.2.2 dX4_readInto_56
          · skip
            refine lv_aload_n hx hb dX4_readInto_45 rfl (lv_at hl 1 rfl) ?_
            refine lv_aload_n hx hb dX4_readInto_46 rfl (lv_at hl 2 rfl) ?_
            refine cV (va_runV (C := RX4) (As := [.ref p1]) (rest := []) ⟨hx, hb, hml, hown, hA⟩ (k_X4_readStatement l dC dI dA sz X Γ hU g32 h0 t_h0 p1 ii t_p1 T N9  (by omega) ((funext fun j => by rw [hf33 19 j (by decide) (by decide) (by decide) (by decide) (by decide) (by decide) (by decide) (by decide), hf27 19 j (by decide) (by decide) (by decide) (by decide), hf12 19 j (by decide) (by decide) (by decide), hf3 19 j (by decide) (by decide)]).trans hT) (by omega) (by omega)) ⟨callB_of 1 hA (al_A wd_2_121) rfl rfl rfl (hA _ wd_1_2) (hA _ wd_2_118) (by decide +kernel) ⟨Nat.le_of_ble_eq_true rfl, Nat.le_of_ble_eq_true rfl⟩, hA _ wd_2_120, hA _ ws_6⟩ ⟨bl, recv_X4 hE hG t_h0, fun U hU9 hW9 => ⟨rfl, by rw [hU9]; exact hG, hE.go hS hU9 hW9⟩⟩ rfl rfl hl.1 rfl (lv_room (Nat.le_of_ble_eq_true rfl)) dX4_readInto_47 ⟨Nat.zero_le _, Nat.zero_le _⟩) hS (fun u47 H locs w48 hG hS => ?_)
            obtain ⟨hf50, w48, hq49⟩ := w48
            obtain ⟨x51, h52⟩ : ∃ y : Int32, y = v2_25 + Int32.ofInt (1) := ⟨_, rfl⟩
            try have h53 : x51.toInt = v2_25.toInt + (1) := ty_inc h52 (by decide) (by omega) (by omega)
            refine lv_iinc (v := x51) (lv' := [(2, .int x51), (0, .ref h0), (1, .ref p1)]) hx hb dX4_readInto_50 hl (k := 0) rfl h52.symm (by decide) rfl (fun ls hl => ?_)
            refine lv_goto (tgt := 25) hx hb dX4_readInto_53 (by decide) ?_
            have hk54 : u47 6 0 = g32 6 0 := hf50 6 0 (by decide) (by decide) (by decide) (by decide) (by decide) (by decide) (by decide) (by decide)
            exact ih_25 x51 u47 _ _ ls (by omega) (by omega) (by omega) (by omega) (fun c j h9 h10 h11 h14 h15 h16 h17 h18 => by rw [hf50 c j h9 h10 h11 h14 h15 h16 h17 h18, hf33 c j h9 h10 h11 h14 h15 h16 h17 h18]) (by rw [hq49, show g32 10 ii = v2_25.toInt by omega, show x51.toInt = v2_25.toInt + 1 by omega, show 31 - (v2_25.toInt + 1).toNat = 30 - v2_25.toInt.toNat by omega, ← pz_L_go (x := pz_c g32) (show g32 15 0 ≠ 0 by omega) (show g32 9 0 = 0 by omega), show (30 - v2_25.toInt.toNat) + 1 = 31 - v2_25.toInt.toNat by omega]; exact hq0) hG hS (lv_sub hl [0, 1, 2] rfl)
  have hk55 : u24 6 0 = g10 6 0 := hf27 6 0 (by decide) (by decide) (by decide) (by decide)
  have hk56 : u24 9 0 = g10 9 0 := hf27 9 0 (by decide) (by decide) (by decide) (by decide)
  exact L_25 ((31 - x30.toInt) + 1).toNat x30 u24 _ _ ls (by omega) (by omega) (by omega) (by omega) (fun c j _ _ _ _ _ _ _ _ => rfl) (by rw [show x30.toInt = 0 by omega, hz9]; rfl) hG hS (lv_sub hl [0, 1, 2] rfl)

set_option maxHeartbeats 4000000 in
set_option maxRecDepth 100000 in
/-- WeekBank.rules:  -/
theorem k_X8_rules (l : Launch) (dC : Nat → ClassId) (dI : Nat → Nat → Nat) (dA : Nat → ClassId) (sz : Nat) (X : va_W) (Γ : ty_G) (hU : Un Γ) (g : gh) (h0 : Nat) (t_h0 : ty Γ h0 1) (T : Nat → Int) (N9 : Nat) (hp : 0 ≤ g 6 0 ∧ g 6 0 ≤ 300) (hT : g 19 = T) (hN : g 6 0 = (N9 : Int)) : Met l yX8_rules (.code yX8_rules cX8_rules 2 (Option.some Jvm.ClassFile.FieldType.int) :: AL) ({ frames := 9, cells := 0, slots := 0, locals := 198 }) (PCx dC dI dA sz X Γ g [.ref h0]) (va_Qi (fun (r : Int32) (u : gh) => (∀ c j : Nat, c ≠ 6 → c ≠ 9 → c ≠ 10 → c ≠ 11 → c ≠ 12 → c ≠ 13 → c ≠ 14 → c ≠ 15 → c ≠ 16 → c ≠ 17 → c ≠ 18 → u c j = g c j) ∧ ((u 6 0 = 0)) ∧ (r.toInt = pz_res (pz_Z T N9 (g 18 0)) ∧ u 14 0 = (pz_Z T N9 (g 18 0)).1.2.2.2.2.2 ∧ u 18 0 = (pz_Z T N9 (g 18 0)).1.2.2.2.1)) (okb dC dI dA sz X Γ) (ty_A sz)) 0 0 (ty_A sz) := by
  refine Met.ofW (cc := cX8_rules) (maxL := 2) (ret := (Option.some Jvm.ClassFile.FieldType.int)) (by decide) rfl ?_
  intro p e s m args below meth c s₁ B hml hv
  obtain ⟨rfl, hG, hE⟩ := hv
  have hx := B.exec
  have hb := B.bytes
  have hr := B.returns
  have hts := atoms_spec B.pre
  have hA : ∀ w ∈ AL, w.before _ s = true := fun w h => hts w (List.mem_cons_of_mem _ h)
  have hown : s.vm.findClass RX8 = some m.cls := findClass_of_methodNamed B.named
  have hlocks := B.notSynchronized
  have hS : va_S (ty_A sz) s.heap s.heap [] := va_S.rf
  have hl := lv_entry ([.ref h0]) (n := 2) (Nat.le_of_ble_eq_true rfl)
  rw [lg_entry_eq]
  generalize (lg_sl ([.ref h0]) ++ List.replicate (2 - (lg_sl ([.ref h0])).length) Slot.unset).toArray = ls at hl ⊢
  have hl : lv_has ls 2 [(0, .ref h0)] := hl
  refine lv_aload_n hx hb dX8_rules_0 rfl (lv_at hl 0 rfl) ?_
  refine get_X8_6 hx hb hA hown hE hG t_h0 wd_1_163 dX8_rules_1 (fun b1 (t_b1 : ty Γ b1 7) => ?_)
  refine lv_aload_n hx hb dX8_rules_4 rfl (lv_at hl 0 rfl) ?_
  refine get_X8_8 hx hb hA hown hE hG t_h0 wd_1_165 dX8_rules_5 (fun b2 i3 t_b2 h4 h4' => ?_)
  refine cV (va_runV (C := RX4) (As := [.ref b2]) (rest := []) ⟨hx, hb, hml, hown, hA⟩ (k_X4_readInto l dC dI dA sz X Γ hU g b1 t_b1 b2 i3 t_b2 T N9  (by omega) (hT) (by omega)) ⟨callB_of 1 hA (al_A wd_2_92) rfl rfl rfl (hA _ wd_1_2) (hA _ wd_2_89) (by decide +kernel) ⟨Nat.le_of_ble_eq_true rfl, Nat.le_of_ble_eq_true rfl⟩, hA _ wd_2_90, hA _ wd_2_91⟩ ⟨bl, recv_X4 hE hG t_b1, fun U hU9 hW9 => ⟨rfl, by rw [hU9]; exact hG, hE.go hS hU9 hW9⟩⟩ rfl rfl hl.1 rfl (lv_room (Nat.le_of_ble_eq_true rfl)) dX8_rules_8 ⟨Nat.zero_le _, Nat.zero_le _⟩) hS (fun u5 H locs w6 hG hS => ?_)
  obtain ⟨hf8, hq7⟩ := w6
  refine lv_aload_n hx hb dX8_rules_11 rfl (lv_at hl 0 rfl) ?_
  refine get_X8_6 hx hb hA hown hE hG t_h0 wd_1_163 dX8_rules_12 (fun b9 (t_b9 : ty Γ b9 7) => ?_)
  refine ty_iconst hx hb (0) dX8_rules_15 (by decide) (fun x10 h11 => ?_)
  refine put_X4_1 hx hb hA hown hE hG hS hU t_b9 wd_1_44 dX8_rules_16 (fun H locs hG hS => ?_)
  refine lv_aload_n hx hb dX8_rules_19 rfl (lv_at hl 0 rfl) ?_
  refine get_X8_6 hx hb hA hown hE hG t_h0 wd_1_163 dX8_rules_20 (fun b12 (t_b12 : ty Γ b12 7) => ?_)
  refine get_X4_2 hx hb hA hown hE hG t_b12 wd_1_46 dX8_rules_23 (fun x13 h14 => ?_)
  replace h14 : x13.toInt = u5 9 0 := by rw [h14]; simp [gs]
  refine ty_if_eq (tgt := 40) hx hb dX8_rules_26 (by decide) (fun c16 => ?_) (fun c16 => ?_)
  · skip
    refine lv_aload_n hx hb dX8_rules_40 rfl (lv_at hl 0 rfl) ?_
    refine get_X8_7 hx hb hA hown hE hG t_h0 wd_1_164 dX8_rules_41 (fun b17 i18 t_b17 h19 h19' => ?_)
    replace h19 : (i18 : Int) = u5 13 0 := by rw [h19]; simp [gs]
    have hk20 : u5 13 0 = g 13 0 := hf8 13 0 (by decide) (by decide) (by decide) (by decide) (by decide) (by decide) (by decide) (by decide)
    refine lv_astore_n (lv' := [(1, .ref b17), (0, .ref h0)]) hx hb dX8_rules_44 rfl hl (by decide) rfl (fun ls hl => ?_)
    refine lv_aload_n hx hb dX8_rules_45 rfl (lv_at hl 1 rfl) ?_
    refine lv_aload_n hx hb dX8_rules_46 rfl (lv_at hl 1 rfl) ?_
    refine get_X8_8 hx hb hA hown hE hG t_h0 wd_1_165 dX8_rules_47 (fun b21 i22 t_b21 h23 h23' => ?_)
    replace h23 : (i22 : Int) = u5 12 0 := by rw [h23]; simp [gs]
    have hk24 : u5 12 0 = g 12 0 := hf8 12 0 (by decide) (by decide) (by decide) (by decide) (by decide) (by decide) (by decide) (by decide)
    refine put_X8_7 hx hb hA hown hE hG hS hU t_h0 wd_1_164 t_b21 (by omega) dX8_rules_50 (fun H locs hG hS => ?_)
    refine lv_aload_n hx hb dX8_rules_53 rfl (lv_at hl 1 rfl) ?_
    refine lv_aload_n hx hb dX8_rules_54 rfl (lv_at hl 0 rfl) ?_
    refine put_X8_8 hx hb hA hown hE hG hS hU t_h0 wd_1_165 t_b17 (by omega) dX8_rules_55 (fun H locs hG hS => ?_)
    generalize eg26 : (gs (gs (gs u5 6 0 x10.toInt) 13 0 (i22 : Int)) 12 0 (i18 : Int)) = g25 at hG
    have hf27 : ∀ c j : Nat, c ≠ 6 → c ≠ 13 → c ≠ 12 → g25 c j = u5 c j := fun c j h6 h13 h12 => by rw [← eg26, gs_c _ _ _ _ h12, gs_c _ _ _ _ h13, gs_c _ _ _ _ h6]
    have v28 : g25 6 0 = x10.toInt := by rw [← eg26, gs_c _ _ _ _ (by decide), gs_c _ _ _ _ (by decide), gs_self]
    have v29 : g25 13 0 = (i22 : Int) := by rw [← eg26, gs_c _ _ _ _ (by decide), gs_self]
    have v30 : g25 12 0 = (i18 : Int) := by rw [← eg26, gs_self]
    refine lv_aload_n hx hb dX8_rules_58 rfl (lv_at hl 1 rfl) ?_
    refine get_X8_7 hx hb hA hown hE hG t_h0 wd_1_164 dX8_rules_59 (fun b31 i32 t_b31 h33 h33' => ?_)
    refine get_X6_4 hx hb hA hown hE hG t_b31 wd_1_88 dX8_rules_62 (fun x34 h35 => ?_)
    have hk37 : g25 10 i32 = u5 10 i32 := hf27 10 i32 (by decide) (by decide) (by decide)
    exact W.iret (v := x34) hx hb hr (fun t ht hW => ⟨⟨x34, g25, rfl, ⟨(fun c j h6 h9 h10 h11 h12 h13 h14 h15 h16 h17 h18 => by rw [hf27 c j h6 h13 h12, hf8 c j h9 h10 h11 h14 h15 h16 h17 h18]), (by omega), (by have h1 : (pz_Z T N9 (g 18 0)).1 = pz_c u5 := hq7.1.symm; refine ⟨?_, ?_, ?_⟩; (unfold pz_res; rw [h1]; show x34.toInt = if u5 9 0 = 0 then (pz_Z T N9 (g 18 0)).2 else -1 - u5 9 0; rw [if_pos (by omega)]; have h2 := hq7.2 (by omega); rw [show i3 = i32 by omega] at h2; omega); (rw [h1]; show g25 14 0 = u5 14 0; exact (by rw [hf27 14 0 (by decide) (by decide) (by decide)])); (rw [h1]; show g25 18 0 = u5 18 0; exact (by rw [hf27 18 0 (by decide) (by decide) (by decide)])))⟩, ok1 ht hG⟩, hS.F ht⟩) hS.2.2 dX8_rules_65
  · skip
    refine lv_aload_n hx hb dX8_rules_29 rfl (lv_at hl 0 rfl) ?_
    refine get_X8_6 hx hb hA hown hE hG t_h0 wd_1_163 dX8_rules_30 (fun b38 (t_b38 : ty Γ b38 7) => ?_)
    refine get_X4_2 hx hb hA hown hE hG t_b38 wd_1_46 dX8_rules_33 (fun x39 h40 => ?_)
    replace h40 : x39.toInt = u5 9 0 := by rw [h40]; simp [gs]
    have hok9 : 0 ≤ u5 9 0 ∧ u5 9 0 ≤ 3 := by have h9 := pz_ok_Z T N9 (g 18 0); rw [← hq7.1] at h9; exact h9
    refine lv_ineg hx hb dX8_rules_36 ?_
    refine lv_topi (fun x42 h43 => ?_)
    have h44 := pz_neg h43 (by omega)
    refine ty_iconst hx hb (1) dX8_rules_37 (by decide) (fun x45 h46 => ?_)
    refine ty_isub hx hb dX8_rules_38 (fun x47 h48 => ?_)
    try have h49 : x47.toInt = x42.toInt - x45.toInt := ty_sub h48 (by omega) (by omega)
    have e50 : (gs u5 6 0 x10.toInt) 6 0 = x10.toInt := by simp [gs]
    exact W.iret (v := x47) hx hb hr (fun t ht hW => ⟨⟨x47, (gs u5 6 0 x10.toInt), rfl, ⟨(fun c j h6 h9 h10 h11 h12 h13 h14 h15 h16 h17 h18 => by rw [gs_c _ _ _ _ h6, hf8 c j h9 h10 h11 h14 h15 h16 h17 h18]), (by omega), (by have h1 : (pz_Z T N9 (g 18 0)).1 = pz_c u5 := hq7.1.symm; refine ⟨?_, ?_, ?_⟩; (unfold pz_res; rw [h1]; show x47.toInt = if u5 9 0 = 0 then (pz_Z T N9 (g 18 0)).2 else -1 - u5 9 0; rw [if_neg (by omega)]; omega); (rw [h1]; show (gs u5 6 0 x10.toInt) 14 0 = u5 14 0; exact (by rw [gs_c _ _ _ _ (by decide)])); (rw [h1]; show (gs u5 6 0 x10.toInt) 18 0 = u5 18 0; exact (by rw [gs_c _ _ _ _ (by decide)])))⟩, ok1 ht hG⟩, hS.F ht⟩) hS.2.2 dX8_rules_39
