set_option maxHeartbeats 4000000 in
set_option maxRecDepth 100000 in
/-- WeekBank$Reader.readRest:  -/
theorem k_X4_readRest (l : Launch) (dC : Nat → ClassId) (dI : Nat → Nat → Nat) (dA : Nat → ClassId) (sz : Nat) (X : va_W) (Γ : ty_G) (hU : Un Γ) (g : gh) (h0 : Nat) (t_h0 : ty Γ h0 7) (p1 ii : Nat) (t_p1 : Γ p1 = (6, ii)) (p2 : Int32) (T : Nat → Int) (N9 : Nat) (hp : 0 ≤ g 17 0 ∧ g 17 0 ≤ g 16 0 ∧ g 16 0 ≤ g 6 0 ∧ g 6 0 ≤ 300) (hT : g 19 = T) (hN : g 6 0 = (N9 : Int)) : Met l yX4_readRest (.code yX4_readRest cX4_readRest 7 (Option.none : Option Jvm.ClassFile.FieldType) :: AL) ({ frames := 6, cells := 0, slots := 0, locals := 128 }) (PCx dC dI dA sz X Γ g [.ref h0, .ref p1, .int p2]) (va_Qv (fun (u : gh) => (∀ c j : Nat, c ≠ 9 → c ≠ 11 → c ≠ 14 → c ≠ 15 → c ≠ 16 → c ≠ 17 → c ≠ 18 → c ≠ 80 → c ≠ 81 → c ≠ 82 → u c j = g c j) ∧ ((0 ≤ u 17 0 ∧ u 17 0 ≤ u 16 0 ∧ u 16 0 ≤ g 6 0)) ∧ (pz_c u = (pz_R T N9 p2.toInt (pz_c g)).1) ∧ (u 80 = cs_S (g 80) (64 * ii) p2.toInt (pz_R T N9 p2.toInt (pz_c g)).2) ∧ (u 81 = cs_Z (g 81) (64 * ii) p2.toInt (pz_R T N9 p2.toInt (pz_c g)).2) ∧ (u 82 = cs_E (g 82) (64 * ii) p2.toInt (pz_R T N9 p2.toInt (pz_c g)).2) ∧ (u 11 = cs_H (g 11) ii p2.toInt (pz_R T N9 p2.toInt (pz_c g)).2)) (okb dC dI dA sz X Γ) (ty_A sz)) 0 0 (ty_A sz) := by
  refine Met.ofW (cc := cX4_readRest) (maxL := 7) (ret := (Option.none : Option Jvm.ClassFile.FieldType)) (by decide) rfl ?_
  intro p e s m args below meth c s₁ B hml hv
  obtain ⟨rfl, hG, hE⟩ := hv
  have hx := B.exec
  have hb := B.bytes
  have hr := B.returns
  have hts := atoms_spec B.pre
  have hA : ∀ w ∈ AL, w.before _ s = true := fun w h => hts w (List.mem_cons_of_mem _ h)
  have hown : s.vm.findClass RX4 = some m.cls := findClass_of_methodNamed B.named
  have hlocks := B.notSynchronized
  have hS : va_S (ty_A sz) s.heap s.heap [] := va_S.rf
  have hl := lv_entry ([.ref h0, .ref p1, .int p2]) (n := 7) (Nat.le_of_ble_eq_true rfl)
  rw [lg_entry_eq]
  generalize (lg_sl ([.ref h0, .ref p1, .int p2]) ++ List.replicate (7 - (lg_sl ([.ref h0, .ref p1, .int p2])).length) Slot.unset).toArray = ls at hl ⊢
  have hl : lv_has ls 7 [(0, .ref h0), (1, .ref p1), (2, .int p2)] := hl
  refine lv_iload_n hx hb dX4_readRest_0 rfl (lv_at hl 2 rfl) ?_
  by_cases c1 : p2.toInt < 1 ∨ 3 < p2.toInt
  · skip
    refine lv_tableOut (tgt := 114) hx hb dX4_readRest_1 c1 (by decide) ?_
    refine lv_aload_n hx hb dX4_readRest_114 rfl (lv_at hl 1 rfl) ?_
    refine lv_aload_n hx hb dX4_readRest_115 rfl (lv_at hl 0 rfl) ?_
    refine cI (va_runV (C := RX4) (As := []) (rest := [.ref p1]) ⟨hx, hb, hml, hown, hA⟩ (k_X4_expectBound l dC dI dA sz X Γ hU g h0 t_h0 T N9  (by omega) (hT) (by omega)) ⟨callB_of 0 hA (al_A wd_2_214) rfl rfl rfl (hA _ wd_1_2) (hA _ wd_2_211) (by decide +kernel) ⟨Nat.le_of_ble_eq_true rfl, Nat.le_of_ble_eq_true rfl⟩, hA _ wd_2_213, hA _ ws_12⟩ ⟨bl, recv_X4 hE hG t_h0, fun U hU9 hW9 => ⟨rfl, by rw [hU9]; exact hG, hE.go hS hU9 hW9⟩⟩ rfl rfl hl.1 rfl (lv_room (Nat.le_of_ble_eq_true rfl)) dX4_readRest_116 ⟨Nat.zero_le _, Nat.zero_le _⟩) hS (fun x4 u2 H locs w3 hG hS => ?_)
    obtain ⟨hf6, w3, hq5⟩ := w3
    refine put_X6_3 hx hb hA hown hE hG hS hU t_p1 wd_1_84 (by omega) dX4_readRest_119 (fun H locs hG hS => ?_)
    have e7 : (gs u2 11 ii x4.toInt) 16 0 = u2 16 0 := by rw [gs_c _ _ _ _ (by decide)]
    have e8 : (gs u2 11 ii x4.toInt) 17 0 = u2 17 0 := by rw [gs_c _ _ _ _ (by decide)]
    exact W.vret hx hb hr (fun t ht hW => ⟨⟨(gs u2 11 ii x4.toInt), rfl, ⟨(fun c j h9 h11 h14 h15 h16 h17 h18 h80 h81 h82 => by rw [gs_c _ _ _ _ h11, hf6 c j h9 h14 h15 h16 h17 h18]), (by omega), (by rw [pz_R4 (show p2.toInt ≠ 1 by omega) (by omega) (by omega), ← hq5.1]; exact pz_c_cg (by rw [gs_c _ _ _ _ (by decide)]) (by rw [gs_c _ _ _ _ (by decide)]) (by rw [gs_c _ _ _ _ (by decide)]) (by rw [gs_c _ _ _ _ (by decide)]) (by rw [gs_c _ _ _ _ (by decide)]) (by rw [gs_c _ _ _ _ (by decide)])), (by unfold cs_S; rw [if_neg (show ¬ p2.toInt = 1 by omega)]; rw [gs_r _ _ _ (by decide), (show u2 80 = g 80 from funext fun j => hf6 80 j (by decide) (by decide) (by decide) (by decide) (by decide) (by decide))]), (by unfold cs_Z; rw [if_neg (show ¬ p2.toInt = 2 by omega)]; rw [gs_r _ _ _ (by decide), (show u2 81 = g 81 from funext fun j => hf6 81 j (by decide) (by decide) (by decide) (by decide) (by decide) (by decide))]), (by unfold cs_E; rw [if_neg (show ¬ p2.toInt = 3 by omega)]; rw [gs_r _ _ _ (by decide), (show u2 82 = g 82 from funext fun j => hf6 82 j (by decide) (by decide) (by decide) (by decide) (by decide) (by decide))]), (by unfold cs_H; rw [if_neg (show ¬ (p2.toInt = 1 ∨ p2.toInt = 2 ∨ p2.toInt = 3) by omega), pz_R4n (by omega) (by omega) (by omega), ← hq5.2]; rw [pz_gs, (show u2 11 = g 11 from funext fun j => hf6 11 j (by decide) (by decide) (by decide) (by decide) (by decide) (by decide))] <;> rfl)⟩, ok1 ht hG⟩, hS.F ht⟩) hS.2.2 dX4_readRest_122
  · skip
    rcases (show p2.toInt = 1 ∨ p2.toInt = 2 ∨ p2.toInt = 3 by omega) with q9 | q10 | q11
    · skip
      refine lv_tableIn (tgt := 28) (off := 27) hx hb dX4_readRest_1 (by omega) (by omega) (by rw [q9]; rfl) (by decide) ?_
      refine lv_aload_n hx hb dX4_readRest_28 rfl (lv_at hl 0 rfl) ?_
      refine ty_iconst hx hb (0) dX4_readRest_29 (by decide) (fun x12 h13 => ?_)
      refine ty_bipush hx hb (52) dX4_readRest_30 (by decide) (fun x14 h15 => ?_)
      refine cI (va_runV (C := RX4) (As := [.int x12, .int x14]) (rest := []) ⟨hx, hb, hml, hown, hA⟩ (k_X4_expectNumber l dC dI dA sz X Γ hU g h0 t_h0 x12 x14 T N9  (by omega) (hT) (by omega)) ⟨callB_of 2 hA (al_A wd_2_193) rfl rfl rfl (hA _ wd_1_2) (hA _ wd_2_190) (by decide +kernel) ⟨Nat.le_of_ble_eq_true rfl, Nat.le_of_ble_eq_true rfl⟩, hA _ wd_2_192, hA _ ws_11⟩ ⟨bl, recv_X4 hE hG t_h0, fun U hU9 hW9 => ⟨rfl, by rw [hU9]; exact hG, hE.go hS hU9 hW9⟩⟩ rfl rfl hl.1 rfl (lv_room (Nat.le_of_ble_eq_true rfl)) dX4_readRest_32 ⟨Nat.zero_le _, Nat.zero_le _⟩) hS (fun x18 u16 H locs w17 hG hS => ?_)
      obtain ⟨hf20, w17, hq19⟩ := w17
      refine lv_istore_n (lv' := [(3, .int x18), (0, .ref h0), (1, .ref p1), (2, .int p2)]) hx hb dX4_readRest_35 rfl hl (by decide) rfl (fun ls hl => ?_)
      refine lv_aload_n hx hb dX4_readRest_36 rfl (lv_at hl 1 rfl) ?_
      refine lv_iload_n hx hb dX4_readRest_37 rfl (lv_at hl 0 rfl) ?_
      refine ty_bipush hx hb (52) dX4_readRest_38 (by decide) (fun x21 h22 => ?_)
      have hk23 : u16 6 0 = g 6 0 := hf20 6 0 (by decide) (by decide) (by decide) (by decide) (by decide) (by decide)
      refine cI (va_runV (C := RX4) (As := [.int x18, .int x21]) (rest := []) ⟨hx, hb, hml, hown, hA⟩ (k_X4_expectNumber l dC dI dA sz X Γ hU u16 h0 t_h0 x18 x21 T N9  (by omega) ((funext fun j => by rw [hf20 19 j (by decide) (by decide) (by decide) (by decide) (by decide) (by decide)]).trans hT) (by omega)) ⟨callB_of 2 hA (al_A wd_2_193) rfl rfl rfl (hA _ wd_1_2) (hA _ wd_2_190) (by decide +kernel) ⟨Nat.le_of_ble_eq_true rfl, Nat.le_of_ble_eq_true rfl⟩, hA _ wd_2_192, hA _ ws_11⟩ ⟨bl, recv_X4 hE hG t_h0, fun U hU9 hW9 => ⟨rfl, by rw [hU9]; exact hG, hE.go hS hU9 hW9⟩⟩ rfl rfl hl.1 rfl (lv_room (Nat.le_of_ble_eq_true rfl)) dX4_readRest_40 ⟨Nat.zero_le _, Nat.zero_le _⟩) hS (fun x26 u24 H locs w25 hG hS => ?_)
      obtain ⟨hf28, w25, hq27⟩ := w25
      refine lv_istore (lv' := [(4, .int x26), (3, .int x18), (0, .ref h0), (1, .ref p1), (2, .int p2)]) hx hb dX4_readRest_43 hl (by decide) rfl (fun ls hl => ?_)
      refine lv_aload_n hx hb dX4_readRest_45 rfl (lv_at hl 3 rfl) ?_
      refine lv_iload_n hx hb dX4_readRest_46 rfl (lv_at hl 1 rfl) ?_
      refine lv_iload hx hb dX4_readRest_47 (lv_at hl 0 rfl) ?_
      refine lv_aload_n hx hb dX4_readRest_49 rfl (lv_at hl 2 rfl) ?_
      refine ty_iconst hx hb (0) dX4_readRest_50 (by decide) (fun x29 h30 => ?_)
      refine ty_sipush hx hb (9999) dX4_readRest_51 (by decide) (fun x31 h32 => ?_)
      have hk33 : u24 6 0 = u16 6 0 := hf28 6 0 (by decide) (by decide) (by decide) (by decide) (by decide) (by decide)
      refine cI (va_runV (C := RX4) (As := [.int x29, .int x31]) (rest := [.int x26, .int x18, .ref p1]) ⟨hx, hb, hml, hown, hA⟩ (k_X4_expectNumber l dC dI dA sz X Γ hU u24 h0 t_h0 x29 x31 T N9  (by omega) ((funext fun j => by rw [hf28 19 j (by decide) (by decide) (by decide) (by decide) (by decide) (by decide), hf20 19 j (by decide) (by decide) (by decide) (by decide) (by decide) (by decide)]).trans hT) (by omega)) ⟨callB_of 2 hA (al_A wd_2_193) rfl rfl rfl (hA _ wd_1_2) (hA _ wd_2_190) (by decide +kernel) ⟨Nat.le_of_ble_eq_true rfl, Nat.le_of_ble_eq_true rfl⟩, hA _ wd_2_192, hA _ ws_11⟩ ⟨bl, recv_X4 hE hG t_h0, fun U hU9 hW9 => ⟨rfl, by rw [hU9]; exact hG, hE.go hS hU9 hW9⟩⟩ rfl rfl hl.1 rfl (lv_room (Nat.le_of_ble_eq_true rfl)) dX4_readRest_54 ⟨Nat.zero_le _, Nat.zero_le _⟩) hS (fun x36 u34 H locs w35 hG hS => ?_)
      obtain ⟨hf38, w35, hq37⟩ := w35
      refine cV (va_runV (C := RX6) (As := [.int x18, .int x26, .int x36]) (rest := []) ⟨hx, hb, hml, hown, hA⟩ (k_X6_setSeason l dC dI dA sz X Γ hU u34 p1 ii t_p1 x18 x26 x36   ) ⟨callB_of 3 hA (al_A wd_2_197) rfl rfl rfl (hA _ wd_1_3) (hA _ wd_2_194) (by decide +kernel) ⟨Nat.le_of_ble_eq_true rfl, Nat.le_of_ble_eq_true rfl⟩, hA _ wd_2_195, hA _ wd_2_196⟩ ⟨bl, recv_X6 hE hG (by rw [t_p1]), fun U hU9 hW9 => ⟨rfl, by rw [hU9]; exact hG, hE.go hS hU9 hW9⟩⟩ rfl rfl hl.1 rfl (lv_room (Nat.le_of_ble_eq_true rfl)) dX4_readRest_57 ⟨Nat.zero_le _, Nat.zero_le _⟩) hS (fun u39 H locs w40 hG hS => ?_)
      obtain ⟨hf42, hq41⟩ := w40
      have hn43 : u34 80 = (g 80) := by rw [(show u34 80 = u24 80 from funext fun j => hf38 80 j (by decide) (by decide) (by decide) (by decide) (by decide) (by decide)), (show u24 80 = u16 80 from funext fun j => hf28 80 j (by decide) (by decide) (by decide) (by decide) (by decide) (by decide)), (show u16 80 = g 80 from funext fun j => hf20 80 j (by decide) (by decide) (by decide) (by decide) (by decide) (by decide))]
      rw [hn43] at hq41
      refine lv_goto (tgt := 122) hx hb dX4_readRest_60 (by decide) ?_
      have hk44 : u39 16 0 = u34 16 0 := hf42 16 0 (by decide)
      have hk45 : u39 17 0 = u34 17 0 := hf42 17 0 (by decide)
      exact W.vret hx hb hr (fun t ht hW => ⟨⟨u39, rfl, ⟨(fun c j h9 h11 h14 h15 h16 h17 h18 h80 h81 h82 => by rw [hf42 c j h80, hf38 c j h9 h14 h15 h16 h17 h18, hf28 c j h9 h14 h15 h16 h17 h18, hf20 c j h9 h14 h15 h16 h17 h18]), (by omega), (by have hA9 := hq19; rw [show x12.toInt = 0 by omega, show x14.toInt = 52 by omega] at hA9; have hB9 := hq27; rw [show x21.toInt = 52 by omega] at hB9; have hC9 := hq37; rw [show x29.toInt = 0 by omega, show x31.toInt = 9999 by omega] at hC9; rw [pz_R1 (show p2.toInt = 1 by omega), ← hA9.2, ← hA9.1, ← hB9.1]; exact (pz_c_cg (by rw [hf42 16 0 (by decide)]) (by rw [hf42 17 0 (by decide)]) (by rw [hf42 15 0 (by decide)]) (by rw [hf42 18 0 (by decide)]) (by rw [hf42 9 0 (by decide)]) (by rw [hf42 14 0 (by decide)])).trans hC9.1), (by unfold cs_S; rw [if_pos (show p2.toInt = 1 by omega)]; have hA9 := hq19; rw [show x12.toInt = 0 by omega, show x14.toInt = 52 by omega] at hA9; have hB9 := hq27; rw [show x21.toInt = 52 by omega] at hB9; have hC9 := hq37; rw [show x29.toInt = 0 by omega, show x31.toInt = 9999 by omega] at hC9; rw [pz_R1n (show p2.toInt = 1 by omega), ← hA9.2, ← hA9.1, ← hB9.2, ← hB9.1, ← hC9.2]; rw [hq41] <;> rfl), (by unfold cs_Z; rw [if_neg (show ¬ p2.toInt = 2 by omega)]; rw [(show u39 81 = u34 81 from funext fun j => hf42 81 j (by decide)), (show u34 81 = u24 81 from funext fun j => hf38 81 j (by decide) (by decide) (by decide) (by decide) (by decide) (by decide)), (show u24 81 = u16 81 from funext fun j => hf28 81 j (by decide) (by decide) (by decide) (by decide) (by decide) (by decide)), (show u16 81 = g 81 from funext fun j => hf20 81 j (by decide) (by decide) (by decide) (by decide) (by decide) (by decide))]), (by unfold cs_E; rw [if_neg (show ¬ p2.toInt = 3 by omega)]; rw [(show u39 82 = u34 82 from funext fun j => hf42 82 j (by decide)), (show u34 82 = u24 82 from funext fun j => hf38 82 j (by decide) (by decide) (by decide) (by decide) (by decide) (by decide)), (show u24 82 = u16 82 from funext fun j => hf28 82 j (by decide) (by decide) (by decide) (by decide) (by decide) (by decide)), (show u16 82 = g 82 from funext fun j => hf20 82 j (by decide) (by decide) (by decide) (by decide) (by decide) (by decide))]), (by unfold cs_H; rw [if_pos (show p2.toInt = 1 ∨ p2.toInt = 2 ∨ p2.toInt = 3 by omega)]; rw [(show u39 11 = u34 11 from funext fun j => hf42 11 j (by decide)), (show u34 11 = u24 11 from funext fun j => hf38 11 j (by decide) (by decide) (by decide) (by decide) (by decide) (by decide)), (show u24 11 = u16 11 from funext fun j => hf28 11 j (by decide) (by decide) (by decide) (by decide) (by decide) (by decide)), (show u16 11 = g 11 from funext fun j => hf20 11 j (by decide) (by decide) (by decide) (by decide) (by decide) (by decide))])⟩, ok1 ht hG⟩, hS.F ht⟩) hS.2.2 dX4_readRest_122
    · skip
      refine lv_tableIn (tgt := 63) (off := 62) hx hb dX4_readRest_1 (by omega) (by omega) (by rw [q10]; rfl) (by decide) ?_
      refine lv_aload_n hx hb dX4_readRest_63 rfl (lv_at hl 0 rfl) ?_
      refine ty_iconst hx hb (1) dX4_readRest_64 (by decide) (fun x46 h47 => ?_)
      refine ty_iconst hx hb (4) dX4_readRest_65 (by decide) (fun x48 h49 => ?_)
      refine cI (va_runV (C := RX4) (As := [.int x46, .int x48]) (rest := []) ⟨hx, hb, hml, hown, hA⟩ (k_X4_expectNumber l dC dI dA sz X Γ hU g h0 t_h0 x46 x48 T N9  (by omega) (hT) (by omega)) ⟨callB_of 2 hA (al_A wd_2_193) rfl rfl rfl (hA _ wd_1_2) (hA _ wd_2_190) (by decide +kernel) ⟨Nat.le_of_ble_eq_true rfl, Nat.le_of_ble_eq_true rfl⟩, hA _ wd_2_192, hA _ ws_11⟩ ⟨bl, recv_X4 hE hG t_h0, fun U hU9 hW9 => ⟨rfl, by rw [hU9]; exact hG, hE.go hS hU9 hW9⟩⟩ rfl rfl hl.1 rfl (lv_room (Nat.le_of_ble_eq_true rfl)) dX4_readRest_66 ⟨Nat.zero_le _, Nat.zero_le _⟩) hS (fun x52 u50 H locs w51 hG hS => ?_)
      obtain ⟨hf54, w51, hq53⟩ := w51
      refine lv_istore (lv' := [(5, .int x52), (0, .ref h0), (1, .ref p1), (2, .int p2)]) hx hb dX4_readRest_69 hl (by decide) rfl (fun ls hl => ?_)
      refine lv_aload_n hx hb dX4_readRest_71 rfl (lv_at hl 2 rfl) ?_
      refine lv_iload hx hb dX4_readRest_72 (lv_at hl 0 rfl) ?_
      refine lv_aload_n hx hb dX4_readRest_74 rfl (lv_at hl 1 rfl) ?_
      refine ty_iconst hx hb (0) dX4_readRest_75 (by decide) (fun x55 h56 => ?_)
      refine ty_sipush hx hb (9999) dX4_readRest_76 (by decide) (fun x57 h58 => ?_)
      have hk59 : u50 6 0 = g 6 0 := hf54 6 0 (by decide) (by decide) (by decide) (by decide) (by decide) (by decide)
      refine cI (va_runV (C := RX4) (As := [.int x55, .int x57]) (rest := [.int x52, .ref p1]) ⟨hx, hb, hml, hown, hA⟩ (k_X4_expectNumber l dC dI dA sz X Γ hU u50 h0 t_h0 x55 x57 T N9  (by omega) ((funext fun j => by rw [hf54 19 j (by decide) (by decide) (by decide) (by decide) (by decide) (by decide)]).trans hT) (by omega)) ⟨callB_of 2 hA (al_A wd_2_193) rfl rfl rfl (hA _ wd_1_2) (hA _ wd_2_190) (by decide +kernel) ⟨Nat.le_of_ble_eq_true rfl, Nat.le_of_ble_eq_true rfl⟩, hA _ wd_2_192, hA _ ws_11⟩ ⟨bl, recv_X4 hE hG t_h0, fun U hU9 hW9 => ⟨rfl, by rw [hU9]; exact hG, hE.go hS hU9 hW9⟩⟩ rfl rfl hl.1 rfl (lv_room (Nat.le_of_ble_eq_true rfl)) dX4_readRest_79 ⟨Nat.zero_le _, Nat.zero_le _⟩) hS (fun x62 u60 H locs w61 hG hS => ?_)
      obtain ⟨hf64, w61, hq63⟩ := w61
      refine cV (va_runV (C := RX6) (As := [.int x52, .int x62]) (rest := []) ⟨hx, hb, hml, hown, hA⟩ (k_X6_setSize l dC dI dA sz X Γ hU u60 p1 ii t_p1 x52 x62   ) ⟨callB_of 2 hA (al_A wd_2_204) rfl rfl rfl (hA _ wd_1_3) (hA _ wd_2_201) (by decide +kernel) ⟨Nat.le_of_ble_eq_true rfl, Nat.le_of_ble_eq_true rfl⟩, hA _ wd_2_202, hA _ wd_2_203⟩ ⟨bl, recv_X6 hE hG (by rw [t_p1]), fun U hU9 hW9 => ⟨rfl, by rw [hU9]; exact hG, hE.go hS hU9 hW9⟩⟩ rfl rfl hl.1 rfl (lv_room (Nat.le_of_ble_eq_true rfl)) dX4_readRest_82 ⟨Nat.zero_le _, Nat.zero_le _⟩) hS (fun u65 H locs w66 hG hS => ?_)
      obtain ⟨hf68, hq67⟩ := w66
      have hn69 : u60 81 = (g 81) := by rw [(show u60 81 = u50 81 from funext fun j => hf64 81 j (by decide) (by decide) (by decide) (by decide) (by decide) (by decide)), (show u50 81 = g 81 from funext fun j => hf54 81 j (by decide) (by decide) (by decide) (by decide) (by decide) (by decide))]
      rw [hn69] at hq67
      refine lv_goto (tgt := 122) hx hb dX4_readRest_85 (by decide) ?_
      have hk70 : u65 16 0 = u60 16 0 := hf68 16 0 (by decide)
      have hk71 : u65 17 0 = u60 17 0 := hf68 17 0 (by decide)
      exact W.vret hx hb hr (fun t ht hW => ⟨⟨u65, rfl, ⟨(fun c j h9 h11 h14 h15 h16 h17 h18 h80 h81 h82 => by rw [hf68 c j h81, hf64 c j h9 h14 h15 h16 h17 h18, hf54 c j h9 h14 h15 h16 h17 h18]), (by omega), (by have hA9 := hq53; rw [show x46.toInt = 1 by omega, show x48.toInt = 4 by omega] at hA9; have hB9 := hq63; rw [show x55.toInt = 0 by omega, show x57.toInt = 9999 by omega] at hB9; rw [pz_R2 (show p2.toInt = 2 by omega), ← hA9.1]; exact (pz_c_cg (by rw [hf68 16 0 (by decide)]) (by rw [hf68 17 0 (by decide)]) (by rw [hf68 15 0 (by decide)]) (by rw [hf68 18 0 (by decide)]) (by rw [hf68 9 0 (by decide)]) (by rw [hf68 14 0 (by decide)])).trans hB9.1), (by unfold cs_S; rw [if_neg (show ¬ p2.toInt = 1 by omega)]; rw [(show u65 80 = u60 80 from funext fun j => hf68 80 j (by decide)), (show u60 80 = u50 80 from funext fun j => hf64 80 j (by decide) (by decide) (by decide) (by decide) (by decide) (by decide)), (show u50 80 = g 80 from funext fun j => hf54 80 j (by decide) (by decide) (by decide) (by decide) (by decide) (by decide))]), (by unfold cs_Z; rw [if_pos (show p2.toInt = 2 by omega)]; have hA9 := hq53; rw [show x46.toInt = 1 by omega, show x48.toInt = 4 by omega] at hA9; have hB9 := hq63; rw [show x55.toInt = 0 by omega, show x57.toInt = 9999 by omega] at hB9; rw [pz_R2n (show p2.toInt = 2 by omega), ← hA9.2, ← hA9.1, ← hB9.2]; rw [hq67] <;> rfl), (by unfold cs_E; rw [if_neg (show ¬ p2.toInt = 3 by omega)]; rw [(show u65 82 = u60 82 from funext fun j => hf68 82 j (by decide)), (show u60 82 = u50 82 from funext fun j => hf64 82 j (by decide) (by decide) (by decide) (by decide) (by decide) (by decide)), (show u50 82 = g 82 from funext fun j => hf54 82 j (by decide) (by decide) (by decide) (by decide) (by decide) (by decide))]), (by unfold cs_H; rw [if_pos (show p2.toInt = 1 ∨ p2.toInt = 2 ∨ p2.toInt = 3 by omega)]; rw [(show u65 11 = u60 11 from funext fun j => hf68 11 j (by decide)), (show u60 11 = u50 11 from funext fun j => hf64 11 j (by decide) (by decide) (by decide) (by decide) (by decide) (by decide)), (show u50 11 = g 11 from funext fun j => hf54 11 j (by decide) (by decide) (by decide) (by decide) (by decide) (by decide))])⟩, ok1 ht hG⟩, hS.F ht⟩) hS.2.2 dX4_readRest_122
    · skip
      refine lv_tableIn (tgt := 88) (off := 87) hx hb dX4_readRest_1 (by omega) (by omega) (by rw [q11]; rfl) (by decide) ?_
      refine lv_aload_n hx hb dX4_readRest_88 rfl (lv_at hl 0 rfl) ?_
      refine ty_iconst hx hb (0) dX4_readRest_89 (by decide) (fun x72 h73 => ?_)
      refine ty_bipush hx hb (52) dX4_readRest_90 (by decide) (fun x74 h75 => ?_)
      refine cI (va_runV (C := RX4) (As := [.int x72, .int x74]) (rest := []) ⟨hx, hb, hml, hown, hA⟩ (k_X4_expectNumber l dC dI dA sz X Γ hU g h0 t_h0 x72 x74 T N9  (by omega) (hT) (by omega)) ⟨callB_of 2 hA (al_A wd_2_193) rfl rfl rfl (hA _ wd_1_2) (hA _ wd_2_190) (by decide +kernel) ⟨Nat.le_of_ble_eq_true rfl, Nat.le_of_ble_eq_true rfl⟩, hA _ wd_2_192, hA _ ws_11⟩ ⟨bl, recv_X4 hE hG t_h0, fun U hU9 hW9 => ⟨rfl, by rw [hU9]; exact hG, hE.go hS hU9 hW9⟩⟩ rfl rfl hl.1 rfl (lv_room (Nat.le_of_ble_eq_true rfl)) dX4_readRest_92 ⟨Nat.zero_le _, Nat.zero_le _⟩) hS (fun x78 u76 H locs w77 hG hS => ?_)
      obtain ⟨hf80, w77, hq79⟩ := w77
      refine lv_istore (lv' := [(6, .int x78), (0, .ref h0), (1, .ref p1), (2, .int p2)]) hx hb dX4_readRest_95 hl (by decide) rfl (fun ls hl => ?_)
      refine lv_aload_n hx hb dX4_readRest_97 rfl (lv_at hl 2 rfl) ?_
      refine lv_iload hx hb dX4_readRest_98 (lv_at hl 0 rfl) ?_
      refine lv_aload_n hx hb dX4_readRest_100 rfl (lv_at hl 1 rfl) ?_
      refine ty_iconst hx hb (0) dX4_readRest_101 (by decide) (fun x81 h82 => ?_)
      refine ty_sipush hx hb (9999) dX4_readRest_102 (by decide) (fun x83 h84 => ?_)
      have hk85 : u76 6 0 = g 6 0 := hf80 6 0 (by decide) (by decide) (by decide) (by decide) (by decide) (by decide)
      refine cI (va_runV (C := RX4) (As := [.int x81, .int x83]) (rest := [.int x78, .ref p1]) ⟨hx, hb, hml, hown, hA⟩ (k_X4_expectNumber l dC dI dA sz X Γ hU u76 h0 t_h0 x81 x83 T N9  (by omega) ((funext fun j => by rw [hf80 19 j (by decide) (by decide) (by decide) (by decide) (by decide) (by decide)]).trans hT) (by omega)) ⟨callB_of 2 hA (al_A wd_2_193) rfl rfl rfl (hA _ wd_1_2) (hA _ wd_2_190) (by decide +kernel) ⟨Nat.le_of_ble_eq_true rfl, Nat.le_of_ble_eq_true rfl⟩, hA _ wd_2_192, hA _ ws_11⟩ ⟨bl, recv_X4 hE hG t_h0, fun U hU9 hW9 => ⟨rfl, by rw [hU9]; exact hG, hE.go hS hU9 hW9⟩⟩ rfl rfl hl.1 rfl (lv_room (Nat.le_of_ble_eq_true rfl)) dX4_readRest_105 ⟨Nat.zero_le _, Nat.zero_le _⟩) hS (fun x88 u86 H locs w87 hG hS => ?_)
      obtain ⟨hf90, w87, hq89⟩ := w87
      refine cV (va_runV (C := RX6) (As := [.int x78, .int x88]) (rest := []) ⟨hx, hb, hml, hown, hA⟩ (k_X6_setEarly l dC dI dA sz X Γ hU u86 p1 ii t_p1 x78 x88   ) ⟨callB_of 2 hA (al_A wd_2_209) rfl rfl rfl (hA _ wd_1_3) (hA _ wd_2_206) (by decide +kernel) ⟨Nat.le_of_ble_eq_true rfl, Nat.le_of_ble_eq_true rfl⟩, hA _ wd_2_207, hA _ wd_2_208⟩ ⟨bl, recv_X6 hE hG (by rw [t_p1]), fun U hU9 hW9 => ⟨rfl, by rw [hU9]; exact hG, hE.go hS hU9 hW9⟩⟩ rfl rfl hl.1 rfl (lv_room (Nat.le_of_ble_eq_true rfl)) dX4_readRest_108 ⟨Nat.zero_le _, Nat.zero_le _⟩) hS (fun u91 H locs w92 hG hS => ?_)
      obtain ⟨hf94, hq93⟩ := w92
      have hn95 : u86 82 = (g 82) := by rw [(show u86 82 = u76 82 from funext fun j => hf90 82 j (by decide) (by decide) (by decide) (by decide) (by decide) (by decide)), (show u76 82 = g 82 from funext fun j => hf80 82 j (by decide) (by decide) (by decide) (by decide) (by decide) (by decide))]
      rw [hn95] at hq93
      refine lv_goto (tgt := 122) hx hb dX4_readRest_111 (by decide) ?_
      have hk96 : u91 16 0 = u86 16 0 := hf94 16 0 (by decide)
      have hk97 : u91 17 0 = u86 17 0 := hf94 17 0 (by decide)
      exact W.vret hx hb hr (fun t ht hW => ⟨⟨u91, rfl, ⟨(fun c j h9 h11 h14 h15 h16 h17 h18 h80 h81 h82 => by rw [hf94 c j h82, hf90 c j h9 h14 h15 h16 h17 h18, hf80 c j h9 h14 h15 h16 h17 h18]), (by omega), (by have hA9 := hq79; rw [show x72.toInt = 0 by omega, show x74.toInt = 52 by omega] at hA9; have hB9 := hq89; rw [show x81.toInt = 0 by omega, show x83.toInt = 9999 by omega] at hB9; rw [pz_R3 (show p2.toInt = 3 by omega), ← hA9.1]; exact (pz_c_cg (by rw [hf94 16 0 (by decide)]) (by rw [hf94 17 0 (by decide)]) (by rw [hf94 15 0 (by decide)]) (by rw [hf94 18 0 (by decide)]) (by rw [hf94 9 0 (by decide)]) (by rw [hf94 14 0 (by decide)])).trans hB9.1), (by unfold cs_S; rw [if_neg (show ¬ p2.toInt = 1 by omega)]; rw [(show u91 80 = u86 80 from funext fun j => hf94 80 j (by decide)), (show u86 80 = u76 80 from funext fun j => hf90 80 j (by decide) (by decide) (by decide) (by decide) (by decide) (by decide)), (show u76 80 = g 80 from funext fun j => hf80 80 j (by decide) (by decide) (by decide) (by decide) (by decide) (by decide))]), (by unfold cs_Z; rw [if_neg (show ¬ p2.toInt = 2 by omega)]; rw [(show u91 81 = u86 81 from funext fun j => hf94 81 j (by decide)), (show u86 81 = u76 81 from funext fun j => hf90 81 j (by decide) (by decide) (by decide) (by decide) (by decide) (by decide)), (show u76 81 = g 81 from funext fun j => hf80 81 j (by decide) (by decide) (by decide) (by decide) (by decide) (by decide))]), (by unfold cs_E; rw [if_pos (show p2.toInt = 3 by omega)]; have hA9 := hq79; rw [show x72.toInt = 0 by omega, show x74.toInt = 52 by omega] at hA9; have hB9 := hq89; rw [show x81.toInt = 0 by omega, show x83.toInt = 9999 by omega] at hB9; rw [pz_R3n (show p2.toInt = 3 by omega), ← hA9.2, ← hA9.1, ← hB9.2]; rw [hq93] <;> rfl), (by unfold cs_H; rw [if_pos (show p2.toInt = 1 ∨ p2.toInt = 2 ∨ p2.toInt = 3 by omega)]; rw [(show u91 11 = u86 11 from funext fun j => hf94 11 j (by decide)), (show u86 11 = u76 11 from funext fun j => hf90 11 j (by decide) (by decide) (by decide) (by decide) (by decide) (by decide)), (show u76 11 = g 11 from funext fun j => hf80 11 j (by decide) (by decide) (by decide) (by decide) (by decide) (by decide))])⟩, ok1 ht hG⟩, hS.F ht⟩) hS.2.2 dX4_readRest_122

set_option maxHeartbeats 4000000 in
set_option maxRecDepth 100000 in
/-- WeekBank$Reader.readStatement:  -/
theorem k_X4_readStatement (l : Launch) (dC : Nat → ClassId) (dI : Nat → Nat → Nat) (dA : Nat → ClassId) (sz : Nat) (X : va_W) (Γ : ty_G) (hU : Un Γ) (g : gh) (h0 : Nat) (t_h0 : ty Γ h0 7) (p1 ii : Nat) (t_p1 : Γ p1 = (6, ii)) (T : Nat → Int) (N9 : Nat) (hp : 0 ≤ g 17 0 ∧ g 17 0 ≤ g 16 0 ∧ g 16 0 ≤ g 6 0 ∧ g 6 0 ≤ 300) (hT : g 19 = T) (hN : g 6 0 = (N9 : Int)) (hc : 0 ≤ g 10 ii ∧ g 10 ii ≤ 31) : Met l yX4_readStatement (.code yX4_readStatement cX4_readStatement 3 (Option.none : Option Jvm.ClassFile.FieldType) :: AL) ({ frames := 7, cells := 0, slots := 0, locals := 154 }) (PCx dC dI dA sz X Γ g [.ref h0, .ref p1]) (va_Qv (fun (u : gh) => (∀ c j : Nat, c ≠ 9 → c ≠ 10 → c ≠ 11 → c ≠ 14 → c ≠ 15 → c ≠ 16 → c ≠ 17 → c ≠ 18 → c ≠ 80 → c ≠ 81 → c ≠ 82 → u c j = g c j) ∧ ((0 ≤ u 17 0 ∧ u 17 0 ≤ u 16 0 ∧ u 16 0 ≤ g 6 0) ∧ (u 9 0 = 0 → u 10 ii = g 10 ii + 1)) ∧ (pz_c u = pz_st T N9 (g 10 ii) (pz_c g)) ∧ (u 80 = st_S T N9 (64 * ii) (g 10 ii) (pz_c g) (g 80)) ∧ (u 81 = st_Z T N9 (64 * ii) (g 10 ii) (pz_c g) (g 81)) ∧ (u 82 = st_E T N9 (64 * ii) (g 10 ii) (pz_c g) (g 82)) ∧ (u 11 = st_H T N9 ii (g 10 ii) (pz_c g) (g 11))) (okb dC dI dA sz X Γ) (ty_A sz)) 0 0 (ty_A sz) := by
  refine Met.ofW (cc := cX4_readStatement) (maxL := 3) (ret := (Option.none : Option Jvm.ClassFile.FieldType)) (by decide) rfl ?_
  intro p e s m args below meth c s₁ B hml hv
  obtain ⟨rfl, hG, hE⟩ := hv
  have hx := B.exec
  have hb := B.bytes
  have hr := B.returns
  have hts := atoms_spec B.pre
  have hA : ∀ w ∈ AL, w.before _ s = true := fun w h => hts w (List.mem_cons_of_mem _ h)
  have hown : s.vm.findClass RX4 = some m.cls := findClass_of_methodNamed B.named
  have hlocks := B.notSynchronized
  have hS : va_S (ty_A sz) s.heap s.heap [] := va_S.rf
  have hl := lv_entry ([.ref h0, .ref p1]) (n := 3) (Nat.le_of_ble_eq_true rfl)
  rw [lg_entry_eq]
  generalize (lg_sl ([.ref h0, .ref p1]) ++ List.replicate (3 - (lg_sl ([.ref h0, .ref p1])).length) Slot.unset).toArray = ls at hl ⊢
  have hl : lv_has ls 3 [(0, .ref h0), (1, .ref p1)] := hl
  refine lv_aload_n hx hb dX4_readStatement_0 rfl (lv_at hl 0 rfl) ?_
  refine cI (va_runV (C := RX4) (As := []) (rest := []) ⟨hx, hb, hml, hown, hA⟩ (k_X4_statementKind l dC dI dA sz X Γ hU g h0 t_h0 T N9  (by omega) (hT) (by omega)) ⟨callB_of 0 hA (al_A wd_2_125) rfl rfl rfl (hA _ wd_1_2) (hA _ wd_2_122) (by decide +kernel) ⟨Nat.le_of_ble_eq_true rfl, Nat.le_of_ble_eq_true rfl⟩, hA _ wd_2_124, hA _ ws_7⟩ ⟨bl, recv_X4 hE hG t_h0, fun U hU9 hW9 => ⟨rfl, by rw [hU9]; exact hG, hE.go hS hU9 hW9⟩⟩ rfl rfl hl.1 rfl (lv_room (Nat.le_of_ble_eq_true rfl)) dX4_readStatement_1 ⟨Nat.zero_le _, Nat.zero_le _⟩) hS (fun x3 u1 H locs w2 hG hS => ?_)
  obtain ⟨eu5, w2, hq4⟩ := w2
  rw [eu5] at hG
  refine lv_istore_n (lv' := [(2, .int x3), (0, .ref h0), (1, .ref p1)]) hx hb dX4_readStatement_4 rfl hl (by decide) rfl (fun ls hl => ?_)
  refine lv_iload_n hx hb dX4_readStatement_5 rfl (lv_at hl 0 rfl) ?_
  refine ty_if_ne (tgt := 15) hx hb dX4_readStatement_6 (by decide) (fun c6 => ?_) (fun c6 => ?_)
  · skip
    refine lv_aload_n hx hb dX4_readStatement_15 rfl (lv_at hl 2 rfl) ?_
    refine get_X6_4 hx hb hA hown hE hG t_p1 wd_1_87 dX4_readStatement_16 (fun x7 h8 => ?_)
    refine ty_bipush hx hb (30) dX4_readStatement_19 (by decide) (fun x10 h11 => ?_)
    refine ty_icmp_lt (tgt := 30) hx hb dX4_readStatement_21 (by decide) (fun c12 => ?_) (fun c12 => ?_)
    · skip
      refine lv_aload_n hx hb dX4_readStatement_30 rfl (lv_at hl 1 rfl) ?_
      refine cV (va_runV (C := RX4) (As := []) (rest := []) ⟨hx, hb, hml, hown, hA⟩ (k_X4_readToken l dC dI dA sz X Γ hU g h0 t_h0 T N9  (by omega) (hT) (by omega)) ⟨callB_of 0 hA (al_A wd_2_100) rfl rfl rfl (hA _ wd_1_2) (hA _ wd_2_97) (by decide +kernel) ⟨Nat.le_of_ble_eq_true rfl, Nat.le_of_ble_eq_true rfl⟩, hA _ wd_2_99, hA _ ws_3⟩ ⟨bl, recv_X4 hE hG t_h0, fun U hU9 hW9 => ⟨rfl, by rw [hU9]; exact hG, hE.go hS hU9 hW9⟩⟩ rfl rfl hl.1 rfl (lv_room (Nat.le_of_ble_eq_true rfl)) dX4_readStatement_31 ⟨Nat.zero_le _, Nat.zero_le _⟩) hS (fun u13 H locs w14 hG hS => ?_)
      obtain ⟨hf16, w14, hq15⟩ := w14
      refine lv_aload_n hx hb dX4_readStatement_34 rfl (lv_at hl 1 rfl) ?_
      refine lv_aload_n hx hb dX4_readStatement_35 rfl (lv_at hl 2 rfl) ?_
      refine lv_iload_n hx hb dX4_readStatement_36 rfl (lv_at hl 0 rfl) ?_
      have hk17 : u13 6 0 = g 6 0 := hf16 6 0 (by decide) (by decide) (by decide) (by decide)
      refine cV (va_runV (C := RX4) (As := [.ref p1, .int x3]) (rest := []) ⟨hx, hb, hml, hown, hA⟩ (k_X4_readRest l dC dI dA sz X Γ hU u13 h0 t_h0 p1 ii t_p1 x3 T N9  (by omega) ((funext fun j => by rw [hf16 19 j (by decide) (by decide) (by decide) (by decide)]).trans hT) (by omega)) ⟨callB_of 2 hA (al_A wd_2_189) rfl rfl rfl (hA _ wd_1_2) (hA _ wd_2_186) (by decide +kernel) ⟨Nat.le_of_ble_eq_true rfl, Nat.le_of_ble_eq_true rfl⟩, hA _ wd_2_188, hA _ ws_10⟩ ⟨bl, recv_X4 hE hG t_h0, fun U hU9 hW9 => ⟨rfl, by rw [hU9]; exact hG, hE.go hS hU9 hW9⟩⟩ rfl rfl hl.1 rfl (lv_room (Nat.le_of_ble_eq_true rfl)) dX4_readStatement_37 ⟨Nat.zero_le _, Nat.zero_le _⟩) hS (fun u18 H locs w19 hG hS => ?_)
      obtain ⟨hf25, w19, hq20, hq21, hq22, hq23, hq24⟩ := w19
      have hn26 : u13 80 = (g 80) := by rw [(show u13 80 = g 80 from funext fun j => hf16 80 j (by decide) (by decide) (by decide) (by decide))]
      rw [hn26] at hq21
      have hn27 : u13 81 = (g 81) := by rw [(show u13 81 = g 81 from funext fun j => hf16 81 j (by decide) (by decide) (by decide) (by decide))]
      rw [hn27] at hq22
      have hn28 : u13 82 = (g 82) := by rw [(show u13 82 = g 82 from funext fun j => hf16 82 j (by decide) (by decide) (by decide) (by decide))]
      rw [hn28] at hq23
      have hn29 : u13 11 = (g 11) := by rw [(show u13 11 = g 11 from funext fun j => hf16 11 j (by decide) (by decide) (by decide) (by decide))]
      rw [hn29] at hq24
      refine lv_aload_n hx hb dX4_readStatement_40 rfl (lv_at hl 1 rfl) ?_
      have hk30 : u18 6 0 = u13 6 0 := hf25 6 0 (by decide) (by decide) (by decide) (by decide) (by decide) (by decide) (by decide) (by decide) (by decide) (by decide)
      refine cV (va_runV (C := RX4) (As := []) (rest := []) ⟨hx, hb, hml, hown, hA⟩ (k_X4_expectSign l dC dI dA sz X Γ hU u18 h0 t_h0 T N9  (by omega) ((funext fun j => by rw [hf25 19 j (by decide) (by decide) (by decide) (by decide) (by decide) (by decide) (by decide) (by decide) (by decide) (by decide), hf16 19 j (by decide) (by decide) (by decide) (by decide)]).trans hT) (by omega)) ⟨callB_of 0 hA (al_A wd_2_220) rfl rfl rfl (hA _ wd_1_2) (hA _ wd_2_217) (by decide +kernel) ⟨Nat.le_of_ble_eq_true rfl, Nat.le_of_ble_eq_true rfl⟩, hA _ wd_2_219, hA _ ws_13⟩ ⟨bl, recv_X4 hE hG t_h0, fun U hU9 hW9 => ⟨rfl, by rw [hU9]; exact hG, hE.go hS hU9 hW9⟩⟩ rfl rfl hl.1 rfl (lv_room (Nat.le_of_ble_eq_true rfl)) dX4_readStatement_41 ⟨Nat.zero_le _, Nat.zero_le _⟩) hS (fun u31 H locs w32 hG hS => ?_)
      obtain ⟨hf34, w32, hq33⟩ := w32
      refine lv_aload_n hx hb dX4_readStatement_44 rfl (lv_at hl 2 rfl) ?_
      refine lv_dup hx hb dX4_readStatement_45 rfl ?_
      refine get_X6_4 hx hb hA hown hE hG t_p1 wd_1_87 dX4_readStatement_46 (fun x35 h36 => ?_)
      have hk38 : u31 10 ii = u18 10 ii := hf34 10 ii (by decide) (by decide) (by decide) (by decide) (by decide) (by decide)
      have hk39 : u18 10 ii = u13 10 ii := hf25 10 ii (by decide) (by decide) (by decide) (by decide) (by decide) (by decide) (by decide) (by decide) (by decide) (by decide)
      have hk40 : u13 10 ii = g 10 ii := hf16 10 ii (by decide) (by decide) (by decide) (by decide)
      refine ty_iconst hx hb (1) dX4_readStatement_49 (by decide) (fun x41 h42 => ?_)
      refine ty_iadd hx hb dX4_readStatement_50 (fun x43 h44 => ?_)
      try have h45 : x43.toInt = x35.toInt + x41.toInt := ty_add h44 (by omega) (by omega)
      refine put_X6_4 hx hb hA hown hE hG hS hU t_p1 wd_1_87 dX4_readStatement_51 (fun H locs hG hS => ?_)
      have e46 : (gs u31 10 ii x43.toInt) 9 0 = u31 9 0 := by rw [gs_c _ _ _ _ (by decide)]
      have e47 : (gs u31 10 ii x43.toInt) 10 ii = x43.toInt := by rw [gs_self]
      have e48 : (gs u31 10 ii x43.toInt) 16 0 = u31 16 0 := by rw [gs_c _ _ _ _ (by decide)]
      have e49 : (gs u31 10 ii x43.toInt) 17 0 = u31 17 0 := by rw [gs_c _ _ _ _ (by decide)]
      exact W.vret hx hb hr (fun t ht hW => ⟨⟨(gs u31 10 ii x43.toInt), rfl, ⟨(fun c j h9 h10 h11 h14 h15 h16 h17 h18 h80 h81 h82 => by rw [gs_c _ _ _ _ h10, hf34 c j h9 h14 h15 h16 h17 h18, hf25 c j h9 h11 h14 h15 h16 h17 h18 h80 h81 h82, hf16 c j h15 h16 h17 h18]), (by omega), (by rw [pz_st3 (x := pz_c g) (show pz_k T (pz_c g) ≠ 0 by rw [hq4]; omega) (by omega), hq4, ← hq15, ← hq20, ← hq33]; exact pz_c_cg (by rw [gs_c _ _ _ _ (by decide)]) (by rw [gs_c _ _ _ _ (by decide)]) (by rw [gs_c _ _ _ _ (by decide)]) (by rw [gs_c _ _ _ _ (by decide)]) (by rw [gs_c _ _ _ _ (by decide)]) (by rw [gs_c _ _ _ _ (by decide)])), (by unfold st_S; rw [if_neg (fun q => q.elim (fun z => absurd z (by rw [hq4]; omega)) (fun z => absurd z (by omega))), hq4, ← hq15]; rw [gs_r _ _ _ (by decide), (show u31 80 = u18 80 from funext fun j => hf34 80 j (by decide) (by decide) (by decide) (by decide) (by decide) (by decide)), hq21]), (by unfold st_Z; rw [if_neg (fun q => q.elim (fun z => absurd z (by rw [hq4]; omega)) (fun z => absurd z (by omega))), hq4, ← hq15]; rw [gs_r _ _ _ (by decide), (show u31 81 = u18 81 from funext fun j => hf34 81 j (by decide) (by decide) (by decide) (by decide) (by decide) (by decide)), hq22]), (by unfold st_E; rw [if_neg (fun q => q.elim (fun z => absurd z (by rw [hq4]; omega)) (fun z => absurd z (by omega))), hq4, ← hq15]; rw [gs_r _ _ _ (by decide), (show u31 82 = u18 82 from funext fun j => hf34 82 j (by decide) (by decide) (by decide) (by decide) (by decide) (by decide)), hq23]), (by unfold st_H; rw [if_neg (fun q => q.elim (fun z => absurd z (by rw [hq4]; omega)) (fun z => absurd z (by omega))), hq4, ← hq15]; rw [gs_r _ _ _ (by decide), (show u31 11 = u18 11 from funext fun j => hf34 11 j (by decide) (by decide) (by decide) (by decide) (by decide) (by decide)), hq24])⟩, ok1 ht hG⟩, hS.F ht⟩) hS.2.2 dX4_readStatement_54
    · skip
      refine lv_aload_n hx hb dX4_readStatement_24 rfl (lv_at hl 1 rfl) ?_
      refine ty_iconst hx hb (3) dX4_readStatement_25 (by decide) (fun x50 h51 => ?_)
      refine cV (va_runV (C := RX4) (As := [.int x50]) (rest := []) ⟨hx, hb, hml, hown, hA⟩ (k_X4_blame l dC dI dA sz X Γ hU g h0 t_h0 x50   ) ⟨callB_of 1 hA (al_A wd_2_185) rfl rfl rfl (hA _ wd_1_2) (hA _ wd_2_182) (by decide +kernel) ⟨Nat.le_of_ble_eq_true rfl, Nat.le_of_ble_eq_true rfl⟩, hA _ wd_2_184, hA _ ws_9⟩ ⟨bl, recv_X4 hE hG t_h0, fun U hU9 hW9 => ⟨rfl, by rw [hU9]; exact hG, hE.go hS hU9 hW9⟩⟩ rfl rfl hl.1 rfl (lv_room (Nat.le_of_ble_eq_true rfl)) dX4_readStatement_26 ⟨Nat.zero_le _, Nat.zero_le _⟩) hS (fun u52 H locs w53 hG hS => ?_)
      obtain ⟨hf55, w53, hq54⟩ := w53
      have hk56 : u52 10 ii = g 10 ii := hf55 10 ii (by decide) (by decide)
      have hk57 : u52 16 0 = g 16 0 := hf55 16 0 (by decide) (by decide)
      have hk58 : u52 17 0 = g 17 0 := hf55 17 0 (by decide) (by decide)
      exact W.vret hx hb hr (fun t ht hW => ⟨⟨u52, rfl, ⟨(fun c j h9 h10 h11 h14 h15 h16 h17 h18 h80 h81 h82 => by rw [hf55 c j h9 h14]), (by omega), (by rw [pz_st2 (x := pz_c g) (show pz_k T (pz_c g) ≠ 0 by rw [hq4]; omega) (by omega), hq54, show x50.toInt = 3 by omega]), (by unfold st_S; rw [if_pos (Or.inr (by omega))]; rw [(show u52 80 = g 80 from funext fun j => hf55 80 j (by decide) (by decide))]), (by unfold st_Z; rw [if_pos (Or.inr (by omega))]; rw [(show u52 81 = g 81 from funext fun j => hf55 81 j (by decide) (by decide))]), (by unfold st_E; rw [if_pos (Or.inr (by omega))]; rw [(show u52 82 = g 82 from funext fun j => hf55 82 j (by decide) (by decide))]), (by unfold st_H; rw [if_pos (Or.inr (by omega))]; rw [(show u52 11 = g 11 from funext fun j => hf55 11 j (by decide) (by decide))])⟩, ok1 ht hG⟩, hS.F ht⟩) hS.2.2 dX4_readStatement_29
  · skip
    refine lv_aload_n hx hb dX4_readStatement_9 rfl (lv_at hl 1 rfl) ?_
    refine ty_iconst hx hb (1) dX4_readStatement_10 (by decide) (fun x59 h60 => ?_)
    refine cV (va_runV (C := RX4) (As := [.int x59]) (rest := []) ⟨hx, hb, hml, hown, hA⟩ (k_X4_blame l dC dI dA sz X Γ hU g h0 t_h0 x59   ) ⟨callB_of 1 hA (al_A wd_2_185) rfl rfl rfl (hA _ wd_1_2) (hA _ wd_2_182) (by decide +kernel) ⟨Nat.le_of_ble_eq_true rfl, Nat.le_of_ble_eq_true rfl⟩, hA _ wd_2_184, hA _ ws_9⟩ ⟨bl, recv_X4 hE hG t_h0, fun U hU9 hW9 => ⟨rfl, by rw [hU9]; exact hG, hE.go hS hU9 hW9⟩⟩ rfl rfl hl.1 rfl (lv_room (Nat.le_of_ble_eq_true rfl)) dX4_readStatement_11 ⟨Nat.zero_le _, Nat.zero_le _⟩) hS (fun u61 H locs w62 hG hS => ?_)
    obtain ⟨hf64, w62, hq63⟩ := w62
    have hk65 : u61 10 ii = g 10 ii := hf64 10 ii (by decide) (by decide)
    have hk66 : u61 16 0 = g 16 0 := hf64 16 0 (by decide) (by decide)
    have hk67 : u61 17 0 = g 17 0 := hf64 17 0 (by decide) (by decide)
    exact W.vret hx hb hr (fun t ht hW => ⟨⟨u61, rfl, ⟨(fun c j h9 h10 h11 h14 h15 h16 h17 h18 h80 h81 h82 => by rw [hf64 c j h9 h14]), (by omega), (by rw [pz_st1 (x := pz_c g) (show pz_k T (pz_c g) = 0 by rw [hq4]; omega), hq63, show x59.toInt = 1 by omega]), (by unfold st_S; rw [if_pos (Or.inl (show pz_k T (pz_c g) = 0 by rw [hq4]; omega))]; rw [(show u61 80 = g 80 from funext fun j => hf64 80 j (by decide) (by decide))]), (by unfold st_Z; rw [if_pos (Or.inl (show pz_k T (pz_c g) = 0 by rw [hq4]; omega))]; rw [(show u61 81 = g 81 from funext fun j => hf64 81 j (by decide) (by decide))]), (by unfold st_E; rw [if_pos (Or.inl (show pz_k T (pz_c g) = 0 by rw [hq4]; omega))]; rw [(show u61 82 = g 82 from funext fun j => hf64 82 j (by decide) (by decide))]), (by unfold st_H; rw [if_pos (Or.inl (show pz_k T (pz_c g) = 0 by rw [hq4]; omega))]; rw [(show u61 11 = g 11 from funext fun j => hf64 11 j (by decide) (by decide))])⟩, ok1 ht hG⟩, hS.F ht⟩) hS.2.2 dX4_readStatement_14

set_option maxHeartbeats 4000000 in
set_option maxRecDepth 100000 in
/-- WeekBank$Rules.clear:  -/
theorem k_X6_clear (l : Launch) (dC : Nat → ClassId) (dI : Nat → Nat → Nat) (dA : Nat → ClassId) (sz : Nat) (X : va_W) (Γ : ty_G) (hU : Un Γ) (g : gh) (h0 ii : Nat) (t_h0 : Γ h0 = (6, ii)) : Met l yX6_clear (.code yX6_clear cX6_clear 1 (Option.none : Option Jvm.ClassFile.FieldType) :: AL) ({ frames := 1, cells := 0, slots := 0, locals := 23 }) (PCx dC dI dA sz X Γ g [.ref h0]) (va_Qv (fun (u : gh) => (∀ c j : Nat, c ≠ 10 → c ≠ 11 → c ≠ 80 → c ≠ 81 → c ≠ 82 → u c j = g c j) ∧ ((u 10 ii = 0) ∧ (u 11 ii = 0)) ∧ (u 80 = fz (g 80) (64 * ii) 0 53) ∧ (u 81 = fz (g 81) (64 * ii) 0 5) ∧ (u 82 = fz (g 82) (64 * ii) (-1) 53) ∧ (u 11 = pz_up (g 11) ii 0)) (okb dC dI dA sz X Γ) (ty_A sz)) 0 0 (ty_A sz) := by
  refine Met.ofW (cc := cX6_clear) (maxL := 1) (ret := (Option.none : Option Jvm.ClassFile.FieldType)) (by decide) rfl ?_
  intro p e s m args below meth c s₁ B hml hv
  obtain ⟨rfl, hG, hE⟩ := hv
  have hx := B.exec
  have hb := B.bytes
  have hr := B.returns
  have hts := atoms_spec B.pre
  have hA : ∀ w ∈ AL, w.before _ s = true := fun w h => hts w (List.mem_cons_of_mem _ h)
  have hown : s.vm.findClass RX6 = some m.cls := findClass_of_methodNamed B.named
  have hlocks := B.notSynchronized
  have hS : va_S (ty_A sz) s.heap s.heap [] := va_S.rf
  have hl := lv_entry ([.ref h0]) (n := 1) (Nat.le_of_ble_eq_true rfl)
  rw [lg_entry_eq]
  generalize (lg_sl ([.ref h0]) ++ List.replicate (1 - (lg_sl ([.ref h0])).length) Slot.unset).toArray = ls at hl ⊢
  have hl : lv_has ls 1 [(0, .ref h0)] := hl
  refine lv_aload_n hx hb dX6_clear_0 rfl (lv_at hl 0 rfl) ?_
  refine get_X6_0 hx hb hA hown hE hG t_h0 wd_1_80 dX6_clear_1 (fun b1 t_b1 => ?_)
  refine ty_iconst hx hb (0) dX6_clear_4 (by decide) (fun x2 h3 => ?_)
  refine cV (va_runS (As := [.ref b1, .int x2]) (rest := []) ⟨hx, hb, hml, hown, hA⟩ (k_fill_16 l dC dI dA sz X Γ hU g b1 ii t_b1 x2   ) ⟨callB_of 2 hA (al_A wd_1_79) rfl rfl rfl (hA _ wd_1_4) (hA _ wd_1_77) (by decide +kernel) ⟨Nat.le_of_ble_eq_true rfl, Nat.le_of_ble_eq_true rfl⟩, hA _ wd_1_78⟩ ⟨bl, fun U hU9 hW9 => ⟨rfl, by rw [hU9]; exact hG, hE.go hS hU9 hW9⟩⟩ rfl rfl hl.1 rfl (lv_room (Nat.le_of_ble_eq_true rfl)) dX6_clear_5 ⟨Nat.zero_le _, Nat.zero_le _⟩) hS (fun u4 H locs w5 hG hS => ?_)
  obtain ⟨hf7, hq6⟩ := w5
  refine lv_aload_n hx hb dX6_clear_8 rfl (lv_at hl 0 rfl) ?_
  refine get_X6_1 hx hb hA hown hE hG t_h0 wd_1_81 dX6_clear_9 (fun b8 t_b8 => ?_)
  refine ty_iconst hx hb (0) dX6_clear_12 (by decide) (fun x9 h10 => ?_)
  refine cV (va_runS (As := [.ref b8, .int x9]) (rest := []) ⟨hx, hb, hml, hown, hA⟩ (k_fill_17 l dC dI dA sz X Γ hU u4 b8 ii t_b8 x9   ) ⟨callB_of 2 hA (al_A wd_1_79) rfl rfl rfl (hA _ wd_1_4) (hA _ wd_1_77) (by decide +kernel) ⟨Nat.le_of_ble_eq_true rfl, Nat.le_of_ble_eq_true rfl⟩, hA _ wd_1_78⟩ ⟨bl, fun U hU9 hW9 => ⟨rfl, by rw [hU9]; exact hG, hE.go hS hU9 hW9⟩⟩ rfl rfl hl.1 rfl (lv_room (Nat.le_of_ble_eq_true rfl)) dX6_clear_13 ⟨Nat.zero_le _, Nat.zero_le _⟩) hS (fun u11 H locs w12 hG hS => ?_)
  obtain ⟨hf14, hq13⟩ := w12
  have hn15 : u4 81 = (g 81) := by rw [(show u4 81 = g 81 from funext fun j => hf7 81 j (by decide))]
  rw [hn15] at hq13
  refine lv_aload_n hx hb dX6_clear_16 rfl (lv_at hl 0 rfl) ?_
  refine get_X6_2 hx hb hA hown hE hG t_h0 wd_1_82 dX6_clear_17 (fun b16 t_b16 => ?_)
  refine ty_iconst hx hb (-1) dX6_clear_20 (by decide) (fun x17 h18 => ?_)
  refine cV (va_runS (As := [.ref b16, .int x17]) (rest := []) ⟨hx, hb, hml, hown, hA⟩ (k_fill_26 l dC dI dA sz X Γ hU u11 b16 ii t_b16 x17   ) ⟨callB_of 2 hA (al_A wd_1_79) rfl rfl rfl (hA _ wd_1_4) (hA _ wd_1_77) (by decide +kernel) ⟨Nat.le_of_ble_eq_true rfl, Nat.le_of_ble_eq_true rfl⟩, hA _ wd_1_78⟩ ⟨bl, fun U hU9 hW9 => ⟨rfl, by rw [hU9]; exact hG, hE.go hS hU9 hW9⟩⟩ rfl rfl hl.1 rfl (lv_room (Nat.le_of_ble_eq_true rfl)) dX6_clear_21 ⟨Nat.zero_le _, Nat.zero_le _⟩) hS (fun u19 H locs w20 hG hS => ?_)
  obtain ⟨hf22, hq21⟩ := w20
  have hn23 : u11 82 = (g 82) := by rw [(show u11 82 = u4 82 from funext fun j => hf14 82 j (by decide)), (show u4 82 = g 82 from funext fun j => hf7 82 j (by decide))]
  rw [hn23] at hq21
  refine lv_aload_n hx hb dX6_clear_24 rfl (lv_at hl 0 rfl) ?_
  refine ty_iconst hx hb (0) dX6_clear_25 (by decide) (fun x24 h25 => ?_)
  refine put_X6_3 hx hb hA hown hE hG hS hU t_h0 wd_1_83 (by omega) dX6_clear_26 (fun H locs hG hS => ?_)
  refine lv_aload_n hx hb dX6_clear_29 rfl (lv_at hl 0 rfl) ?_
  refine ty_iconst hx hb (0) dX6_clear_30 (by decide) (fun x26 h27 => ?_)
  refine put_X6_4 hx hb hA hown hE hG hS hU t_h0 wd_1_86 dX6_clear_31 (fun H locs hG hS => ?_)
  have e28 : (gs (gs u19 11 ii x24.toInt) 10 ii x26.toInt) 10 ii = x26.toInt := by rw [gs_self]
  have e29 : (gs (gs u19 11 ii x24.toInt) 10 ii x26.toInt) 11 ii = x24.toInt := by rw [gs_c _ _ _ _ (by decide), gs_self]
  exact W.vret hx hb hr (fun t ht hW => ⟨⟨(gs (gs u19 11 ii x24.toInt) 10 ii x26.toInt), rfl, ⟨(fun c j h10 h11 h80 h81 h82 => by rw [gs_c _ _ _ _ h10, gs_c _ _ _ _ h11, hf22 c j h82, hf14 c j h81, hf7 c j h80]), (by omega), (by rw [gs_r _ _ _ (by decide), gs_r _ _ _ (by decide), (show u19 80 = u11 80 from funext fun j => hf22 80 j (by decide)), (show u11 80 = u4 80 from funext fun j => hf14 80 j (by decide)), hq6] <;> exact fz_v (by omega)), (by rw [gs_r _ _ _ (by decide), gs_r _ _ _ (by decide), (show u19 81 = u11 81 from funext fun j => hf22 81 j (by decide)), hq13] <;> exact fz_v (by omega)), (by rw [gs_r _ _ _ (by decide), gs_r _ _ _ (by decide), hq21] <;> exact fz_v (by omega)), (by rw [gs_r _ _ _ (by decide), pz_gs, (show u19 11 = u11 11 from funext fun j => hf22 11 j (by decide)), (show u11 11 = u4 11 from funext fun j => hf14 11 j (by decide)), (show u4 11 = g 11 from funext fun j => hf7 11 j (by decide))] <;> exact pz_upc rfl (by omega))⟩, ok1 ht hG⟩, hS.F ht⟩) hS.2.2 dX6_clear_34

set_option maxHeartbeats 4000000 in
set_option maxRecDepth 100000 in
/-- WeekBank$Reader.readInto:  -/
theorem k_X4_readInto (l : Launch) (dC : Nat → ClassId) (dI : Nat → Nat → Nat) (dA : Nat → ClassId) (sz : Nat) (X : va_W) (Γ : ty_G) (hU : Un Γ) (g : gh) (h0 : Nat) (t_h0 : ty Γ h0 7) (p1 ii : Nat) (t_p1 : Γ p1 = (6, ii)) (T : Nat → Int) (N9 : Nat) (hp : 0 ≤ g 6 0 ∧ g 6 0 ≤ 300) (hT : g 19 = T) (hN : g 6 0 = (N9 : Int)) : Met l yX4_readInto (.code yX4_readInto cX4_readInto 3 (Option.none : Option Jvm.ClassFile.FieldType) :: AL) ({ frames := 8, cells := 0, slots := 0, locals := 176 }) (PCx dC dI dA sz X Γ g [.ref h0, .ref p1]) (va_Qv (fun (u : gh) => (∀ c j : Nat, c ≠ 9 → c ≠ 10 → c ≠ 11 → c ≠ 14 → c ≠ 15 → c ≠ 16 → c ≠ 17 → c ≠ 18 → c ≠ 80 → c ≠ 81 → c ≠ 82 → u c j = g c j) ∧ (pz_c u = (pz_Z T N9 (g 18 0)).1 ∧ (u 9 0 = 0 → u 10 ii = (pz_Z T N9 (g 18 0)).2)) ∧ ((u 80, u 81, u 82, u 11) = pq_c T N9 (64 * ii) ii 31 0 (pz_nx T N9 (0, 0, 0, g 18 0, 0, -1)) (fz (g 80) (64 * ii) 0 53, fz (g 81) (64 * ii) 0 5, fz (g 82) (64 * ii) (-1) 53, pz_up (g 11) ii 0))) (okb dC dI dA sz X Γ) (ty_A sz)) 0 0 (ty_A sz) := by
  refine Met.ofW (cc := cX4_readInto) (maxL := 3) (ret := (Option.none : Option Jvm.ClassFile.FieldType)) (by decide) rfl ?_
  intro p e s m args below meth c s₁ B hml hv
  obtain ⟨rfl, hG, hE⟩ := hv
  have hx := B.exec
  have hb := B.bytes
  have hr := B.returns
  have hts := atoms_spec B.pre
  have hA : ∀ w ∈ AL, w.before _ s = true := fun w h => hts w (List.mem_cons_of_mem _ h)
  have hown : s.vm.findClass RX4 = some m.cls := findClass_of_methodNamed B.named
  have hlocks := B.notSynchronized
  have hS : va_S (ty_A sz) s.heap s.heap [] := va_S.rf
  have hl := lv_entry ([.ref h0, .ref p1]) (n := 3) (Nat.le_of_ble_eq_true rfl)
  rw [lg_entry_eq]
  generalize (lg_sl ([.ref h0, .ref p1]) ++ List.replicate (3 - (lg_sl ([.ref h0, .ref p1])).length) Slot.unset).toArray = ls at hl ⊢
  have hl : lv_has ls 3 [(0, .ref h0), (1, .ref p1)] := hl
  refine lv_aload_n hx hb dX4_readInto_0 rfl (lv_at hl 1 rfl) ?_
  refine cV (va_runV (C := RX6) (As := []) (rest := []) ⟨hx, hb, hml, hown, hA⟩ (k_X6_clear l dC dI dA sz X Γ hU g p1 ii t_p1   ) ⟨callB_of 0 hA (al_A wd_2_96) rfl rfl rfl (hA _ wd_1_3) (hA _ wd_2_93) (by decide +kernel) ⟨Nat.le_of_ble_eq_true rfl, Nat.le_of_ble_eq_true rfl⟩, hA _ wd_2_94, hA _ wd_2_95⟩ ⟨bl, recv_X6 hE hG (by rw [t_p1]), fun U hU9 hW9 => ⟨rfl, by rw [hU9]; exact hG, hE.go hS hU9 hW9⟩⟩ rfl rfl hl.1 rfl (lv_room (Nat.le_of_ble_eq_true rfl)) dX4_readInto_1 ⟨Nat.zero_le _, Nat.zero_le _⟩) hS (fun u1 H locs w2 hG hS => ?_)
  obtain ⟨hf7, w2, hq3, hq4, hq5, hq6⟩ := w2
  refine lv_aload_n hx hb dX4_readInto_4 rfl (lv_at hl 0 rfl) ?_
  refine ty_iconst hx hb (0) dX4_readInto_5 (by decide) (fun x8 h9 => ?_)
  refine put_X4_2 hx hb hA hown hE hG hS hU t_h0 wd_1_45 dX4_readInto_6 (fun H locs hG hS => ?_)
  refine lv_aload_n hx hb dX4_readInto_9 rfl (lv_at hl 0 rfl) ?_
  refine ty_iconst hx hb (-1) dX4_readInto_10 (by decide) (fun x10 h11 => ?_)
  refine put_X4_3 hx hb hA hown hE hG hS hU t_h0 wd_1_47 dX4_readInto_11 (fun H locs hG hS => ?_)
  refine lv_aload_n hx hb dX4_readInto_14 rfl (lv_at hl 0 rfl) ?_
  refine ty_iconst hx hb (0) dX4_readInto_15 (by decide) (fun x12 h13 => ?_)
  refine put_X4_4 hx hb hA hown hE hG hS hU t_h0 wd_1_49 dX4_readInto_16 (fun H locs hG hS => ?_)
  generalize eg15 : (gs (gs (gs u1 9 0 x8.toInt) 14 0 x10.toInt) 16 0 x12.toInt) = g14 at hG
  have hf16 : ∀ c j : Nat, c ≠ 9 → c ≠ 14 → c ≠ 16 → g14 c j = u1 c j := fun c j h9 h14 h16 => by rw [← eg15, gs_c _ _ _ _ h16, gs_c _ _ _ _ h14, gs_c _ _ _ _ h9]
  have v17 : g14 9 0 = x8.toInt := by rw [← eg15, gs_c _ _ _ _ (by decide), gs_c _ _ _ _ (by decide), gs_self]
  have v18 : g14 14 0 = x10.toInt := by rw [← eg15, gs_c _ _ _ _ (by decide), gs_self]
  have v19 : g14 16 0 = x12.toInt := by rw [← eg15, gs_self]
  refine lv_aload_n hx hb dX4_readInto_19 rfl (lv_at hl 0 rfl) ?_
  have hk20 : g14 17 0 = u1 17 0 := hf16 17 0 (by decide) (by decide) (by decide)
  have hk21 : u1 17 0 = g 17 0 := hf7 17 0 (by decide) (by decide) (by decide) (by decide) (by decide)
  have hk22 : g14 15 0 = u1 15 0 := hf16 15 0 (by decide) (by decide) (by decide)
  have hk23 : u1 15 0 = g 15 0 := hf7 15 0 (by decide) (by decide) (by decide) (by decide) (by decide)
  have hk24 : g14 18 0 = u1 18 0 := hf16 18 0 (by decide) (by decide) (by decide)
  have hk25 : u1 18 0 = g 18 0 := hf7 18 0 (by decide) (by decide) (by decide) (by decide) (by decide)
  have hk26 : g14 6 0 = u1 6 0 := hf16 6 0 (by decide) (by decide) (by decide)
  have hk27 : u1 6 0 = g 6 0 := hf7 6 0 (by decide) (by decide) (by decide) (by decide) (by decide)
  refine cV (va_runV (C := RX4) (As := []) (rest := []) ⟨hx, hb, hml, hown, hA⟩ (k_X4_readToken l dC dI dA sz X Γ hU g14 h0 t_h0 T N9  (by omega) ((funext fun j => by rw [hf16 19 j (by decide) (by decide) (by decide), hf7 19 j (by decide) (by decide) (by decide) (by decide) (by decide)]).trans hT) (by omega)) ⟨callB_of 0 hA (al_A wd_2_100) rfl rfl rfl (hA _ wd_1_2) (hA _ wd_2_97) (by decide +kernel) ⟨Nat.le_of_ble_eq_true rfl, Nat.le_of_ble_eq_true rfl⟩, hA _ wd_2_99, hA _ ws_3⟩ ⟨bl, recv_X4 hE hG t_h0, fun U hU9 hW9 => ⟨rfl, by rw [hU9]; exact hG, hE.go hS hU9 hW9⟩⟩ rfl rfl hl.1 rfl (lv_room (Nat.le_of_ble_eq_true rfl)) dX4_readInto_20 ⟨Nat.zero_le _, Nat.zero_le _⟩) hS (fun u28 H locs w29 hG hS => ?_)
  obtain ⟨hf31, w29, hq30⟩ := w29
  have hk32 : u28 10 ii = g14 10 ii := hf31 10 ii (by decide) (by decide) (by decide) (by decide)
  have hk33 : g14 10 ii = u1 10 ii := hf16 10 ii (by decide) (by decide) (by decide)
  have hz9 : pz_c u28 = pz_nx T N9 (0, 0, 0, g 18 0, 0, -1) := by rw [hq30]; exact congrArg (pz_nx T N9) rfl |>.trans (show pz_nx T N9 (g14 16 0, g14 17 0, g14 15 0, g14 18 0, g14 9 0, g14 14 0) = _ by rw [show g14 16 0 = 0 by omega, show g14 18 0 = g 18 0 by omega, show g14 9 0 = 0 by omega, show g14 14 0 = -1 by omega]; exact pz_nx_st)
  refine ty_iconst hx hb (0) dX4_readInto_23 (by decide) (fun x34 h35 => ?_)
  refine lv_istore_n (lv' := [(2, .int x34), (0, .ref h0), (1, .ref p1)]) hx hb dX4_readInto_24 rfl hl (by decide) rfl (fun ls hl => ?_)
  have L_25 : ∀ (n : Nat) (v2_25 : Int32) (g36 : gh) (H : Heap) (locs : List Loc) (ls : Array Slot), (31 - v2_25.toInt : Int) < n → 0 ≤ v2_25.toInt ∧ v2_25.toInt ≤ 31 → 0 ≤ g36 17 0 ∧ g36 17 0 ≤ g36 16 0 ∧ g36 16 0 ≤ g36 6 0 ∧ g36 6 0 ≤ 300 → (g36 9 0 = 0 → g36 10 ii = v2_25.toInt) → (∀ c j : Nat, c ≠ 9 → c ≠ 10 → c ≠ 11 → c ≠ 14 → c ≠ 15 → c ≠ 16 → c ≠ 17 → c ≠ 18 → c ≠ 80 → c ≠ 81 → c ≠ 82 → g36 c j = u28 c j) → (pz_L T N9 (31 - v2_25.toInt.toNat) v2_25.toInt (pz_c g36) = pz_Z T N9 (g 18 0)) → (pq_c T N9 (64 * ii) ii (31 - v2_25.toInt.toNat) v2_25.toInt (pz_c g36) (g36 80, g36 81, g36 82, g36 11) = pq_c T N9 (64 * ii) ii 31 0 (pz_nx T N9 (0, 0, 0, g 18 0, 0, -1)) (fz (g 80) (64 * ii) 0 53, fz (g 81) (64 * ii) 0 5, fz (g 82) (64 * ii) (-1) 53, pz_up (g 11) ii 0)) → ty_ok (dC, dI) vwCl Γ (TP dA Γ g36) sz X H → va_S (ty_A sz) s.heap H locs → lv_has ls 3 [(2, .int v2_25), (0, .ref h0), (1, .ref p1)] → W p l e (headSpec (.code yX4_readInto cX4_readInto 3 (Option.none : Option Jvm.ClassFile.FieldType) :: AL) ({ frames := 8, cells := 0, slots := 0, locals := 176 })).room s m ([.ref h0, .ref p1] : List Value).toArray below meth c H locs 0 0 (MQ below (va_Qv (fun (u : gh) => (∀ c j : Nat, c ≠ 9 → c ≠ 10 → c ≠ 11 → c ≠ 14 → c ≠ 15 → c ≠ 16 → c ≠ 17 → c ≠ 18 → c ≠ 80 → c ≠ 81 → c ≠ 82 → u c j = g c j) ∧ (pz_c u = (pz_Z T N9 (g 18 0)).1 ∧ (u 9 0 = 0 → u 10 ii = (pz_Z T N9 (g 18 0)).2)) ∧ ((u 80, u 81, u 82, u 11) = pq_c T N9 (64 * ii) ii 31 0 (pz_nx T N9 (0, 0, 0, g 18 0, 0, -1)) (fz (g 80) (64 * ii) 0 53, fz (g 81) (64 * ii) 0 5, fz (g 82) (64 * ii) (-1) 53, pz_up (g 11) ii 0))) (okb dC dI dA sz X Γ) (ty_A sz)) ([.ref h0, .ref p1] : List Value).toArray s 0 0 (ty_A sz)) (F0 m 25 ls []) := by
    intro n
    induction n with
    | zero => intro v2_25 g36 H locs ls hm hi0 hi1 hi2 hf37 hq0 hq1 hG hS hl; exfalso; omega
    | succ n ih_25 =>
      intro v2_25 g36 H locs ls hm hi0 hi1 hi2 hf37 hq0 hq1 hG hS hl
      have hk38 : g36 6 0 = u28 6 0 := hf37 6 0 (by decide) (by decide) (by decide) (by decide) (by decide) (by decide) (by decide) (by decide) (by decide) (by decide) (by decide)
      have hk39 : u28 6 0 = g14 6 0 := hf31 6 0 (by decide) (by decide) (by decide) (by decide)
      refine lv_iload_n hx hb dX4_readInto_25 rfl (lv_at hl 0 rfl) ?_
      refine ty_bipush hx hb (30) dX4_readInto_26 (by decide) (fun x40 h41 => ?_)
      refine ty_icmp_gt (tgt := 56) hx hb dX4_readInto_28 (by decide) (fun c42 => ?_) (fun c42 => ?_)
      · skip
        exact W.vret hx hb hr (fun t ht hW => ⟨⟨g36, rfl, ⟨(fun c j h9 h10 h11 h14 h15 h16 h17 h18 h80 h81 h82 => by rw [hf37 c j h9 h10 h11 h14 h15 h16 h17 h18 h80 h81 h82, hf31 c j h15 h16 h17 h18, hf16 c j h9 h14 h16, hf7 c j h10 h11 h80 h81 h82]), (by have h9 : pz_L T N9 (31 - v2_25.toInt.toNat) v2_25.toInt (pz_c g36) = (pz_c g36, v2_25.toInt) := (by first | exact pz_L_no (x := pz_c g36) (fun q => absurd q.1 (show ¬ g36 15 0 ≠ 0 by omega)) | exact pz_L_no (x := pz_c g36) (fun q => absurd q.2 (show ¬ g36 9 0 = 0 by omega)) | (rw [show 31 - v2_25.toInt.toNat = 0 by omega]; rfl)); rw [hq0] at h9; rw [h9]; exact ⟨rfl, fun q => (show g36 10 ii = v2_25.toInt by omega)⟩), (by rw [← hq1]; exact (by first | exact (pq_c_no (x := pz_c g36) (fun q => absurd q.1 (show ¬ g36 15 0 ≠ 0 by omega))).symm | exact (pq_c_no (x := pz_c g36) (fun q => absurd q.2 (show ¬ g36 9 0 = 0 by omega))).symm | (rw [show 31 - v2_25.toInt.toNat = 0 by omega]; rfl)))⟩, ok1 ht hG⟩, hS.F ht⟩) hS.2.2 dX4_readInto_56
      · skip
        refine lv_aload_n hx hb dX4_readInto_31 rfl (lv_at hl 1 rfl) ?_
        refine get_X4_5 hx hb hA hown hE hG t_h0 wd_1_50 dX4_readInto_32 (fun x43 h44 => ?_)
        refine ty_if_eq (tgt := 56) hx hb dX4_readInto_35 (by decide) (fun c46 => ?_) (fun c46 => ?_)
        · skip
          exact W.vret hx hb hr (fun t ht hW => ⟨⟨g36, rfl, ⟨(fun c j h9 h10 h11 h14 h15 h16 h17 h18 h80 h81 h82 => by rw [hf37 c j h9 h10 h11 h14 h15 h16 h17 h18 h80 h81 h82, hf31 c j h15 h16 h17 h18, hf16 c j h9 h14 h16, hf7 c j h10 h11 h80 h81 h82]), (by have h9 : pz_L T N9 (31 - v2_25.toInt.toNat) v2_25.toInt (pz_c g36) = (pz_c g36, v2_25.toInt) := (by first | exact pz_L_no (x := pz_c g36) (fun q => absurd q.1 (show ¬ g36 15 0 ≠ 0 by omega)) | exact pz_L_no (x := pz_c g36) (fun q => absurd q.2 (show ¬ g36 9 0 = 0 by omega)) | (rw [show 31 - v2_25.toInt.toNat = 0 by omega]; rfl)); rw [hq0] at h9; rw [h9]; exact ⟨rfl, fun q => (show g36 10 ii = v2_25.toInt by omega)⟩), (by rw [← hq1]; exact (by first | exact (pq_c_no (x := pz_c g36) (fun q => absurd q.1 (show ¬ g36 15 0 ≠ 0 by omega))).symm | exact (pq_c_no (x := pz_c g36) (fun q => absurd q.2 (show ¬ g36 9 0 = 0 by omega))).symm | (rw [show 31 - v2_25.toInt.toNat = 0 by omega]; rfl)))⟩, ok1 ht hG⟩, hS.F ht⟩) hS.2.2 dX4_readInto_56
        · skip
          refine lv_aload_n hx hb dX4_readInto_38 rfl (lv_at hl 1 rfl) ?_
          refine get_X4_2 hx hb hA hown hE hG t_h0 wd_1_45 dX4_readInto_39 (fun x47 h48 => ?_)
          refine ty_if_ne (tgt := 56) hx hb dX4_readInto_42 (by decide) (fun c50 => ?_) (fun c50 => ?_)
          · skip
            exact W.vret hx hb hr (fun t ht hW => ⟨⟨g36, rfl, ⟨(fun c j h9 h10 h11 h14 h15 h16 h17 h18 h80 h81 h82 => by rw [hf37 c j h9 h10 h11 h14 h15 h16 h17 h18 h80 h81 h82, hf31 c j h15 h16 h17 h18, hf16 c j h9 h14 h16, hf7 c j h10 h11 h80 h81 h82]), (by have h9 : pz_L T N9 (31 - v2_25.toInt.toNat) v2_25.toInt (pz_c g36) = (pz_c g36, v2_25.toInt) := (by first | exact pz_L_no (x := pz_c g36) (fun q => absurd q.1 (show ¬ g36 15 0 ≠ 0 by omega)) | exact pz_L_no (x := pz_c g36) (fun q => absurd q.2 (show ¬ g36 9 0 = 0 by omega)) | (rw [show 31 - v2_25.toInt.toNat = 0 by omega]; rfl)); rw [hq0] at h9; rw [h9]; exact ⟨rfl, fun q => (show g36 10 ii = v2_25.toInt by omega)⟩), (by rw [← hq1]; exact (by first | exact (pq_c_no (x := pz_c g36) (fun q => absurd q.1 (show ¬ g36 15 0 ≠ 0 by omega))).symm | exact (pq_c_no (x := pz_c g36) (fun q => absurd q.2 (show ¬ g36 9 0 = 0 by omega))).symm | (rw [show 31 - v2_25.toInt.toNat = 0 by omega]; rfl)))⟩, ok1 ht hG⟩, hS.F ht⟩) hS.2.2 dX4_readInto_56
          · skip
            refine lv_aload_n hx hb dX4_readInto_45 rfl (lv_at hl 1 rfl) ?_
            refine lv_aload_n hx hb dX4_readInto_46 rfl (lv_at hl 2 rfl) ?_
            refine cV (va_runV (C := RX4) (As := [.ref p1]) (rest := []) ⟨hx, hb, hml, hown, hA⟩ (k_X4_readStatement l dC dI dA sz X Γ hU g36 h0 t_h0 p1 ii t_p1 T N9  (by omega) ((funext fun j => by rw [hf37 19 j (by decide) (by decide) (by decide) (by decide) (by decide) (by decide) (by decide) (by decide) (by decide) (by decide) (by decide), hf31 19 j (by decide) (by decide) (by decide) (by decide), hf16 19 j (by decide) (by decide) (by decide), hf7 19 j (by decide) (by decide) (by decide) (by decide) (by decide)]).trans hT) (by omega) (by omega)) ⟨callB_of 1 hA (al_A wd_2_121) rfl rfl rfl (hA _ wd_1_2) (hA _ wd_2_118) (by decide +kernel) ⟨Nat.le_of_ble_eq_true rfl, Nat.le_of_ble_eq_true rfl⟩, hA _ wd_2_120, hA _ ws_6⟩ ⟨bl, recv_X4 hE hG t_h0, fun U hU9 hW9 => ⟨rfl, by rw [hU9]; exact hG, hE.go hS hU9 hW9⟩⟩ rfl rfl hl.1 rfl (lv_room (Nat.le_of_ble_eq_true rfl)) dX4_readInto_47 ⟨Nat.zero_le _, Nat.zero_le _⟩) hS (fun u51 H locs w52 hG hS => ?_)
            obtain ⟨hf58, w52, hq53, hq54, hq55, hq56, hq57⟩ := w52
            obtain ⟨x59, h60⟩ : ∃ y : Int32, y = v2_25 + Int32.ofInt (1) := ⟨_, rfl⟩
            try have h61 : x59.toInt = v2_25.toInt + (1) := ty_inc h60 (by decide) (by omega) (by omega)
            refine lv_iinc (v := x59) (lv' := [(2, .int x59), (0, .ref h0), (1, .ref p1)]) hx hb dX4_readInto_50 hl (k := 0) rfl h60.symm (by decide) rfl (fun ls hl => ?_)
            refine lv_goto (tgt := 25) hx hb dX4_readInto_53 (by decide) ?_
            have hk62 : u51 6 0 = g36 6 0 := hf58 6 0 (by decide) (by decide) (by decide) (by decide) (by decide) (by decide) (by decide) (by decide) (by decide) (by decide) (by decide)
            exact ih_25 x59 u51 _ _ ls (by omega) (by omega) (by omega) (by omega) (fun c j h9 h10 h11 h14 h15 h16 h17 h18 h80 h81 h82 => by rw [hf58 c j h9 h10 h11 h14 h15 h16 h17 h18 h80 h81 h82, hf37 c j h9 h10 h11 h14 h15 h16 h17 h18 h80 h81 h82]) (by rw [hq53, show g36 10 ii = v2_25.toInt by omega, show x59.toInt = v2_25.toInt + 1 by omega, show 31 - (v2_25.toInt + 1).toNat = 30 - v2_25.toInt.toNat by omega, ← pz_L_go (x := pz_c g36) (show g36 15 0 ≠ 0 by omega) (show g36 9 0 = 0 by omega), show (30 - v2_25.toInt.toNat) + 1 = 31 - v2_25.toInt.toNat by omega]; exact hq0) (Eq.trans (pq_c_go (c := v2_25.toInt) (x := pz_c g36) (show g36 15 0 ≠ 0 by omega) (show g36 9 0 = 0 by omega) (by omega) (by omega) (by rw [hq53, show g36 10 ii = v2_25.toInt by omega]) (by rw [hq54, show g36 10 ii = v2_25.toInt by omega]) (by rw [hq55, show g36 10 ii = v2_25.toInt by omega]) (by rw [hq56, show g36 10 ii = v2_25.toInt by omega]) (by rw [hq57, show g36 10 ii = v2_25.toInt by omega])) hq1) hG hS (lv_sub hl [0, 1, 2] rfl)
  have hk63 : u28 6 0 = g14 6 0 := hf31 6 0 (by decide) (by decide) (by decide) (by decide)
  have hk64 : u28 9 0 = g14 9 0 := hf31 9 0 (by decide) (by decide) (by decide) (by decide)
  exact L_25 ((31 - x34.toInt) + 1).toNat x34 u28 _ _ ls (by omega) (by omega) (by omega) (by omega) (fun c j _ _ _ _ _ _ _ _ _ _ _ => rfl) (by rw [show x34.toInt = 0 by omega, hz9]; rfl) (by rw [show 31 - x34.toInt.toNat = 31 by omega, show x34.toInt = 0 by omega, hz9]; exact congrArg (pq_c T N9 (64 * ii) ii 31 0 (pz_nx T N9 (0, 0, 0, g 18 0, 0, -1))) (pl4 (by rw [(show u28 80 = g14 80 from funext fun j => hf31 80 j (by decide) (by decide) (by decide) (by decide)), (show g14 80 = u1 80 from funext fun j => hf16 80 j (by decide) (by decide) (by decide)), hq3]) (by rw [(show u28 81 = g14 81 from funext fun j => hf31 81 j (by decide) (by decide) (by decide) (by decide)), (show g14 81 = u1 81 from funext fun j => hf16 81 j (by decide) (by decide) (by decide)), hq4]) (by rw [(show u28 82 = g14 82 from funext fun j => hf31 82 j (by decide) (by decide) (by decide) (by decide)), (show g14 82 = u1 82 from funext fun j => hf16 82 j (by decide) (by decide) (by decide)), hq5]) (by rw [(show u28 11 = g14 11 from funext fun j => hf31 11 j (by decide) (by decide) (by decide) (by decide)), (show g14 11 = u1 11 from funext fun j => hf16 11 j (by decide) (by decide) (by decide)), hq6]))) hG hS (lv_sub hl [0, 1, 2] rfl)

set_option maxHeartbeats 4000000 in
set_option maxRecDepth 100000 in
/-- WeekBank.rules:  -/
theorem k_X8_rules (l : Launch) (dC : Nat → ClassId) (dI : Nat → Nat → Nat) (dA : Nat → ClassId) (sz : Nat) (X : va_W) (Γ : ty_G) (hU : Un Γ) (g : gh) (h0 : Nat) (t_h0 : ty Γ h0 1) (T : Nat → Int) (N9 : Nat) (hp : 0 ≤ g 6 0 ∧ g 6 0 ≤ 300) (hT : g 19 = T) (hN : g 6 0 = (N9 : Int)) : Met l yX8_rules (.code yX8_rules cX8_rules 2 (Option.some Jvm.ClassFile.FieldType.int) :: AL) ({ frames := 9, cells := 0, slots := 0, locals := 198 }) (PCx dC dI dA sz X Γ g [.ref h0]) (va_Qi (fun (r : Int32) (u : gh) => (∀ c j : Nat, c ≠ 6 → c ≠ 9 → c ≠ 10 → c ≠ 11 → c ≠ 12 → c ≠ 13 → c ≠ 14 → c ≠ 15 → c ≠ 16 → c ≠ 17 → c ≠ 18 → c ≠ 80 → c ≠ 81 → c ≠ 82 → u c j = g c j) ∧ ((u 6 0 = 0)) ∧ (r.toInt = pz_res (pz_Z T N9 (g 18 0)) ∧ u 14 0 = (pz_Z T N9 (g 18 0)).1.2.2.2.2.2 ∧ u 18 0 = (pz_Z T N9 (g 18 0)).1.2.2.2.1) ∧ ((u 80, u 81, u 82, u 11) = pq_c T N9 (64 * (g 12 0).toNat) (g 12 0).toNat 31 0 (pz_nx T N9 (0, 0, 0, g 18 0, 0, -1)) (fz (g 80) (64 * (g 12 0).toNat) 0 53, fz (g 81) (64 * (g 12 0).toNat) 0 5, fz (g 82) (64 * (g 12 0).toNat) (-1) 53, pz_up (g 11) (g 12 0).toNat 0)) ∧ (((pz_Z T N9 (g 18 0)).1.2.2.2.2.1 = 0 → u 13 0 = g 12 0 ∧ u 12 0 = g 13 0) ∧ ((pz_Z T N9 (g 18 0)).1.2.2.2.2.1 ≠ 0 → u 13 0 = g 13 0 ∧ u 12 0 = g 12 0))) (okb dC dI dA sz X Γ) (ty_A sz)) 0 0 (ty_A sz) := by
  refine Met.ofW (cc := cX8_rules) (maxL := 2) (ret := (Option.some Jvm.ClassFile.FieldType.int)) (by decide) rfl ?_
  intro p e s m args below meth c s₁ B hml hv
  obtain ⟨rfl, hG, hE⟩ := hv
  have hx := B.exec
  have hb := B.bytes
  have hr := B.returns
  have hts := atoms_spec B.pre
  have hA : ∀ w ∈ AL, w.before _ s = true := fun w h => hts w (List.mem_cons_of_mem _ h)
  have hown : s.vm.findClass RX8 = some m.cls := findClass_of_methodNamed B.named
  have hlocks := B.notSynchronized
  have hS : va_S (ty_A sz) s.heap s.heap [] := va_S.rf
  have hl := lv_entry ([.ref h0]) (n := 2) (Nat.le_of_ble_eq_true rfl)
  rw [lg_entry_eq]
  generalize (lg_sl ([.ref h0]) ++ List.replicate (2 - (lg_sl ([.ref h0])).length) Slot.unset).toArray = ls at hl ⊢
  have hl : lv_has ls 2 [(0, .ref h0)] := hl
  refine lv_aload_n hx hb dX8_rules_0 rfl (lv_at hl 0 rfl) ?_
  refine get_X8_6 hx hb hA hown hE hG t_h0 wd_1_163 dX8_rules_1 (fun b1 (t_b1 : ty Γ b1 7) => ?_)
  refine lv_aload_n hx hb dX8_rules_4 rfl (lv_at hl 0 rfl) ?_
  refine get_X8_8 hx hb hA hown hE hG t_h0 wd_1_165 dX8_rules_5 (fun b2 i3 t_b2 h4 h4' => ?_)
  refine cV (va_runV (C := RX4) (As := [.ref b2]) (rest := []) ⟨hx, hb, hml, hown, hA⟩ (k_X4_readInto l dC dI dA sz X Γ hU g b1 t_b1 b2 i3 t_b2 T N9  (by omega) (hT) (by omega)) ⟨callB_of 1 hA (al_A wd_2_92) rfl rfl rfl (hA _ wd_1_2) (hA _ wd_2_89) (by decide +kernel) ⟨Nat.le_of_ble_eq_true rfl, Nat.le_of_ble_eq_true rfl⟩, hA _ wd_2_90, hA _ wd_2_91⟩ ⟨bl, recv_X4 hE hG t_b1, fun U hU9 hW9 => ⟨rfl, by rw [hU9]; exact hG, hE.go hS hU9 hW9⟩⟩ rfl rfl hl.1 rfl (lv_room (Nat.le_of_ble_eq_true rfl)) dX8_rules_8 ⟨Nat.zero_le _, Nat.zero_le _⟩) hS (fun u5 H locs w6 hG hS => ?_)
  obtain ⟨hf9, hq7, hq8⟩ := w6
  refine lv_aload_n hx hb dX8_rules_11 rfl (lv_at hl 0 rfl) ?_
  refine get_X8_6 hx hb hA hown hE hG t_h0 wd_1_163 dX8_rules_12 (fun b10 (t_b10 : ty Γ b10 7) => ?_)
  refine ty_iconst hx hb (0) dX8_rules_15 (by decide) (fun x11 h12 => ?_)
  refine put_X4_1 hx hb hA hown hE hG hS hU t_b10 wd_1_44 dX8_rules_16 (fun H locs hG hS => ?_)
  refine lv_aload_n hx hb dX8_rules_19 rfl (lv_at hl 0 rfl) ?_
  refine get_X8_6 hx hb hA hown hE hG t_h0 wd_1_163 dX8_rules_20 (fun b13 (t_b13 : ty Γ b13 7) => ?_)
  refine get_X4_2 hx hb hA hown hE hG t_b13 wd_1_46 dX8_rules_23 (fun x14 h15 => ?_)
  replace h15 : x14.toInt = u5 9 0 := by rw [h15, gs_c _ _ _ _ (by decide)]
  refine ty_if_eq (tgt := 40) hx hb dX8_rules_26 (by decide) (fun c17 => ?_) (fun c17 => ?_)
  · skip
    refine lv_aload_n hx hb dX8_rules_40 rfl (lv_at hl 0 rfl) ?_
    refine get_X8_7 hx hb hA hown hE hG t_h0 wd_1_164 dX8_rules_41 (fun b18 i19 t_b18 h20 h20' => ?_)
    replace h20 : (i19 : Int) = u5 13 0 := by rw [h20, gs_c _ _ _ _ (by decide)]
    have hk21 : u5 13 0 = g 13 0 := hf9 13 0 (by decide) (by decide) (by decide) (by decide) (by decide) (by decide) (by decide) (by decide) (by decide) (by decide) (by decide)
    refine lv_astore_n (lv' := [(1, .ref b18), (0, .ref h0)]) hx hb dX8_rules_44 rfl hl (by decide) rfl (fun ls hl => ?_)
    refine lv_aload_n hx hb dX8_rules_45 rfl (lv_at hl 1 rfl) ?_
    refine lv_aload_n hx hb dX8_rules_46 rfl (lv_at hl 1 rfl) ?_
    refine get_X8_8 hx hb hA hown hE hG t_h0 wd_1_165 dX8_rules_47 (fun b22 i23 t_b22 h24 h24' => ?_)
    replace h24 : (i23 : Int) = u5 12 0 := by rw [h24, gs_c _ _ _ _ (by decide)]
    have hk25 : u5 12 0 = g 12 0 := hf9 12 0 (by decide) (by decide) (by decide) (by decide) (by decide) (by decide) (by decide) (by decide) (by decide) (by decide) (by decide)
    refine put_X8_7 hx hb hA hown hE hG hS hU t_h0 wd_1_164 t_b22 (by omega) dX8_rules_50 (fun H locs hG hS => ?_)
    refine lv_aload_n hx hb dX8_rules_53 rfl (lv_at hl 1 rfl) ?_
    refine lv_aload_n hx hb dX8_rules_54 rfl (lv_at hl 0 rfl) ?_
    refine put_X8_8 hx hb hA hown hE hG hS hU t_h0 wd_1_165 t_b18 (by omega) dX8_rules_55 (fun H locs hG hS => ?_)
    generalize eg27 : (gs (gs (gs u5 6 0 x11.toInt) 13 0 (i23 : Int)) 12 0 (i19 : Int)) = g26 at hG
    have hf28 : ∀ c j : Nat, c ≠ 6 → c ≠ 13 → c ≠ 12 → g26 c j = u5 c j := fun c j h6 h13 h12 => by rw [← eg27, gs_c _ _ _ _ h12, gs_c _ _ _ _ h13, gs_c _ _ _ _ h6]
    have v29 : g26 6 0 = x11.toInt := by rw [← eg27, gs_c _ _ _ _ (by decide), gs_c _ _ _ _ (by decide), gs_self]
    have v30 : g26 13 0 = (i23 : Int) := by rw [← eg27, gs_c _ _ _ _ (by decide), gs_self]
    have v31 : g26 12 0 = (i19 : Int) := by rw [← eg27, gs_self]
    refine lv_aload_n hx hb dX8_rules_58 rfl (lv_at hl 1 rfl) ?_
    refine get_X8_7 hx hb hA hown hE hG t_h0 wd_1_164 dX8_rules_59 (fun b32 i33 t_b32 h34 h34' => ?_)
    refine get_X6_4 hx hb hA hown hE hG t_b32 wd_1_88 dX8_rules_62 (fun x35 h36 => ?_)
    have hk38 : g26 10 i33 = u5 10 i33 := hf28 10 i33 (by decide) (by decide) (by decide)
    exact W.iret (v := x35) hx hb hr (fun t ht hW => ⟨⟨x35, g26, rfl, ⟨(fun c j h6 h9 h10 h11 h12 h13 h14 h15 h16 h17 h18 h80 h81 h82 => by rw [hf28 c j h6 h13 h12, hf9 c j h9 h10 h11 h14 h15 h16 h17 h18 h80 h81 h82]), (by omega), (by have h1 : (pz_Z T N9 (g 18 0)).1 = pz_c u5 := hq7.1.symm; refine ⟨?_, ?_, ?_⟩; (unfold pz_res; rw [h1]; show x35.toInt = if u5 9 0 = 0 then (pz_Z T N9 (g 18 0)).2 else -1 - u5 9 0; rw [if_pos (by omega)]; have h2 := hq7.2 (by omega); rw [show i3 = i33 by omega] at h2; omega); (rw [h1]; show g26 14 0 = u5 14 0; exact (by rw [hf28 14 0 (by decide) (by decide) (by decide)])); (rw [h1]; show g26 18 0 = u5 18 0; exact (by rw [hf28 18 0 (by decide) (by decide) (by decide)]))), (by have h9 := hq8; rw [show i3 = (g 12 0).toNat by omega] at h9; exact Eq.trans (pl4 (by rw [show g26 80 = u5 80 from funext fun j => by rw [hf28 80 j (by decide) (by decide) (by decide)]]) (by rw [show g26 81 = u5 81 from funext fun j => by rw [hf28 81 j (by decide) (by decide) (by decide)]]) (by rw [show g26 82 = u5 82 from funext fun j => by rw [hf28 82 j (by decide) (by decide) (by decide)]]) (by rw [show g26 11 = u5 11 from funext fun j => by rw [hf28 11 j (by decide) (by decide) (by decide)]])) h9), (by have h1 : (pz_Z T N9 (g 18 0)).1 = pz_c u5 := hq7.1.symm; rw [h1]; show (u5 9 0 = 0 → _) ∧ (u5 9 0 ≠ 0 → _); exact ⟨fun q => by omega, fun q => by omega⟩)⟩, ok1 ht hG⟩, hS.F ht⟩) hS.2.2 dX8_rules_65
  · skip
    refine lv_aload_n hx hb dX8_rules_29 rfl (lv_at hl 0 rfl) ?_
    refine get_X8_6 hx hb hA hown hE hG t_h0 wd_1_163 dX8_rules_30 (fun b39 (t_b39 : ty Γ b39 7) => ?_)
    refine get_X4_2 hx hb hA hown hE hG t_b39 wd_1_46 dX8_rules_33 (fun x40 h41 => ?_)
    replace h41 : x40.toInt = u5 9 0 := by rw [h41, gs_c _ _ _ _ (by decide)]
    have hok9 : 0 ≤ u5 9 0 ∧ u5 9 0 ≤ 3 := by have h9 := pz_ok_Z T N9 (g 18 0); rw [← hq7.1] at h9; exact h9
    refine lv_ineg hx hb dX8_rules_36 ?_
    refine lv_topi (fun x43 h44 => ?_)
    have h45 := pz_neg h44 (by omega)
    refine ty_iconst hx hb (1) dX8_rules_37 (by decide) (fun x46 h47 => ?_)
    refine ty_isub hx hb dX8_rules_38 (fun x48 h49 => ?_)
    try have h50 : x48.toInt = x43.toInt - x46.toInt := ty_sub h49 (by omega) (by omega)
    have e51 : (gs u5 6 0 x11.toInt) 6 0 = x11.toInt := by rw [gs_self]
    have hk52 : u5 12 0 = g 12 0 := hf9 12 0 (by decide) (by decide) (by decide) (by decide) (by decide) (by decide) (by decide) (by decide) (by decide) (by decide) (by decide)
    have e53 : (gs u5 6 0 x11.toInt) 12 0 = u5 12 0 := by rw [gs_c _ _ _ _ (by decide)]
    have hk54 : u5 13 0 = g 13 0 := hf9 13 0 (by decide) (by decide) (by decide) (by decide) (by decide) (by decide) (by decide) (by decide) (by decide) (by decide) (by decide)
    have e55 : (gs u5 6 0 x11.toInt) 13 0 = u5 13 0 := by rw [gs_c _ _ _ _ (by decide)]
    exact W.iret (v := x48) hx hb hr (fun t ht hW => ⟨⟨x48, (gs u5 6 0 x11.toInt), rfl, ⟨(fun c j h6 h9 h10 h11 h12 h13 h14 h15 h16 h17 h18 h80 h81 h82 => by rw [gs_c _ _ _ _ h6, hf9 c j h9 h10 h11 h14 h15 h16 h17 h18 h80 h81 h82]), (by omega), (by have h1 : (pz_Z T N9 (g 18 0)).1 = pz_c u5 := hq7.1.symm; refine ⟨?_, ?_, ?_⟩; (unfold pz_res; rw [h1]; show x48.toInt = if u5 9 0 = 0 then (pz_Z T N9 (g 18 0)).2 else -1 - u5 9 0; rw [if_neg (by omega)]; omega); (rw [h1]; show (gs u5 6 0 x11.toInt) 14 0 = u5 14 0; exact (by rw [gs_c _ _ _ _ (by decide)])); (rw [h1]; show (gs u5 6 0 x11.toInt) 18 0 = u5 18 0; exact (by rw [gs_c _ _ _ _ (by decide)]))), (by have h9 := hq8; rw [show i3 = (g 12 0).toNat by omega] at h9; exact Eq.trans (pl4 (by rw [show (gs u5 6 0 x11.toInt) 80 = u5 80 from funext fun j => by rw [gs_c _ _ _ _ (by decide)]]) (by rw [show (gs u5 6 0 x11.toInt) 81 = u5 81 from funext fun j => by rw [gs_c _ _ _ _ (by decide)]]) (by rw [show (gs u5 6 0 x11.toInt) 82 = u5 82 from funext fun j => by rw [gs_c _ _ _ _ (by decide)]]) (by rw [show (gs u5 6 0 x11.toInt) 11 = u5 11 from funext fun j => by rw [gs_c _ _ _ _ (by decide)]])) h9), (by have h1 : (pz_Z T N9 (g 18 0)).1 = pz_c u5 := hq7.1.symm; rw [h1]; show (u5 9 0 = 0 → _) ∧ (u5 9 0 ≠ 0 → _); exact ⟨fun q => by omega, fun q => by omega⟩)⟩, ok1 ht hG⟩, hS.F ht⟩) hS.2.2 dX8_rules_39
