set_option maxHeartbeats 4000000 in
set_option maxRecDepth 100000 in
/-- WeekBank$Flat.<init>:  -/
theorem k_X1_init (l : Launch) (dC : Nat → ClassId) (dI : Nat → Nat → Nat) (dA : Nat → ClassId) (sz : Nat) (X : va_W) (Γ : ty_G) (hU : Un Γ) (g : gh) (h0 : Nat) (p1 : Int32) (p2 : Int32) (p3 : Int32) (ii : Nat) (hii : p1.toInt = (ii : Int)) (f2 : ∀ b, Γ b ≠ (2, ii)) (f13 : ∀ b, Γ b ≠ (13, ii)) (f14 : ∀ b, Γ b ≠ (14, ii)) (f15 : ∀ b, Γ b ≠ (15, ii)) : Met l yX1_init (.code yX1_init cX1_init 4 (Option.none : Option Jvm.ClassFile.FieldType) :: AL) ({ frames := 1, cells := 3, slots := 159, locals := 12 }) (PCx dC dI dA sz ((h0, .inr (1, dv_X1)) :: X) Γ g [.ref h0, .int p1, .int p2, .int p3]) (va_Qv (fun (u : (ty_G × gh)) => ext Γ u.1 ∧ Un u.1 ∧ Nw [2, 13, 14, 15] Γ u.1 ii ∧ u.1 h0 = (2, ii) ∧ (∀ c j : Nat, c ≠ 41 → c ≠ 42 → c ≠ 43 → c ≠ 44 → c ≠ 45 → u.2 c j = g c j) ∧ (u.2 41 = pz_up (g 41) ii p2.toInt) ∧ (u.2 42 = pz_up (g 42) ii p3.toInt) ∧ (u.2 43 = fz (g 43) (53 * ii) (-1) 53) ∧ (u.2 44 = fz (g 44) (53 * ii) (0) 53) ∧ (u.2 45 = fz (g 45) (53 * ii) (-1) 53)) (okB dC dI dA sz X) (ty_A sz)) 3 159 (ty_A sz) := by
  refine Met.ofW (cc := cX1_init) (maxL := 4) (ret := (Option.none : Option Jvm.ClassFile.FieldType)) (by decide) rfl ?_
  intro p e s m args below meth c s₁ B hml hv
  obtain ⟨rfl, hG, hE⟩ := hv
  have hx := B.exec
  have hb := B.bytes
  have hr := B.returns
  have hts := atoms_spec B.pre
  have hA : ∀ w ∈ AL, w.before _ s = true := fun w h => hts w (List.mem_cons_of_mem _ h)
  have hown : s.vm.findClass RX1 = some m.cls := findClass_of_methodNamed B.named
  have hlocks := B.notSynchronized
  have hin : meth.name = "<init>" := (name_of_methodNamed B.named B.method).1
  have hS : va_S (ty_A sz) s.heap s.heap [] := va_S.rf
  have hNw : Nw [2, 13, 14, 15] Γ Γ ii := Nw.rf
  obtain ⟨g1, eg2⟩ : ∃ z : gh, z = gr g 43 (fz (g 43) (53 * ii) (-1) 53) := ⟨_, rfl⟩
  have hG := ty_gb (c := 43) (k := 13) (ii := ii) (v := -1) (fun _ _ => rfl) hG f13
  rw [← eg2] at hG
  have hf3 : ∀ c j : Nat, c ≠ 43 → g1 c j = g c j := fun c j h => by rw [eg2]; exact gr_c h
  have hw4 : g1 43 = fz (g 43) (53 * ii) (-1) 53 := by rw [eg2, gr_s]
  obtain ⟨g5, eg6⟩ : ∃ z : gh, z = gr g1 44 (fz (g1 44) (53 * ii) (0) 53) := ⟨_, rfl⟩
  have hG := ty_gb (c := 44) (k := 14) (ii := ii) (v := 0) (fun _ _ => rfl) hG f14
  rw [← eg6] at hG
  have hf7 : ∀ c j : Nat, c ≠ 44 → g5 c j = g1 c j := fun c j h => by rw [eg6]; exact gr_c h
  have hw8 : g5 44 = fz (g 44) (53 * ii) (0) 53 := by rw [eg6, gr_s, (show g1 44 = g 44 from funext fun j => hf3 44 j (by decide))]
  obtain ⟨g9, eg10⟩ : ∃ z : gh, z = gr g5 45 (fz (g5 45) (53 * ii) (-1) 53) := ⟨_, rfl⟩
  have hG := ty_gb (c := 45) (k := 15) (ii := ii) (v := -1) (fun _ _ => rfl) hG f15
  rw [← eg10] at hG
  have hf11 : ∀ c j : Nat, c ≠ 45 → g9 c j = g5 c j := fun c j h => by rw [eg10]; exact gr_c h
  have hw12 : g9 45 = fz (g 45) (53 * ii) (-1) 53 := by rw [eg10, gr_s, (show g5 45 = g1 45 from funext fun j => hf7 45 j (by decide)), (show g1 45 = g 45 from funext fun j => hf3 45 j (by decide))]
  have hG := ty_gset (c := 41) (j := ii) (z := p2.toInt) hG (dp_fr f2)
  have hG := ty_gset (c := 42) (j := ii) (z := p3.toInt) hG (dp_fr f2)
  have hl := lv_entry ([.ref h0, .int p1, .int p2, .int p3]) (n := 4) (Nat.le_of_ble_eq_true rfl)
  rw [lg_entry_eq]
  generalize (lg_sl ([.ref h0, .int p1, .int p2, .int p3]) ++ List.replicate (4 - (lg_sl ([.ref h0, .int p1, .int p2, .int p3])).length) Slot.unset).toArray = ls at hl ⊢
  have hl : lv_has ls 4 [(0, .ref h0), (1, .int p1), (2, .int p2), (3, .int p3)] := hl
  refine lv_aload_n hx hb dX1_init_0 rfl (lv_at hl 0 rfl) ?_
  refine W.objInit hx hb hown (hA _ wd_1_208) (hA _ wd_1_28) (hA _ wd_1_29) rfl (by rw [hml]; exact hl.1) rfl dX1_init_1 (Nat.le_of_ble_eq_true rfl) (Nat.le_of_ble_eq_true rfl) ?_
  refine W.eq (g2 := F0 m 4 ls []) rfl ?_
  refine lv_aload_n hx hb dX1_init_4 rfl (lv_at hl 0 rfl) ?_
  refine ty_bipush hx hb (53) dX1_init_5 (by decide) (fun x13 h14 => ?_)
  refine new_R5 hx hb hA hE hG hS hown wd_1_209 (N := 53) (by omega) (by decide) (Nat.le_of_ble_eq_true rfl) (Nat.le_of_ble_eq_true rfl) (13, ii) (fun Γ' => by rw [TP_13 rfl]; exact ⟨_, rfl, fun j hj => ⟨fun _ => (by rw [gs_r _ _ _ (by decide), gs_r _ _ _ (by decide), (show g9 43 = g5 43 from funext fun j => hf11 43 j (by decide)), (show g5 43 = g1 43 from funext fun j => hf7 43 j (by decide)), hw4, fz_at, if_pos ⟨Nat.le_add_right _ _, Nat.add_lt_add_left hj _⟩]), fun b h => (by cases h)⟩⟩) dX1_init_7 (fun q15 H (z_q15 : ty Γ q15 0) s_q15 e_q15 hG hS => ?_)
  obtain ⟨Γ16, eΓ16⟩ : ∃ z, z = va_up Γ q15 (13, ii) := ⟨_, rfl⟩
  rw [← eΓ16] at hG
  have hx17 : ext Γ Γ16 := by rw [eΓ16]; exact ext.up z_q15
  have hU : Un Γ16 := by rw [eΓ16]; exact Un.upF hU f13 rfl
  replace f2 : ∀ b, Γ16 b ≠ (2, ii) := by rw [eΓ16]; exact fr_up f2 (fun q => absurd (congrArg Prod.fst q) (by show (13 : Nat) ≠ 2; decide))
  replace f14 : ∀ b, Γ16 b ≠ (14, ii) := by rw [eΓ16]; exact fr_up f14 (fun q => absurd (congrArg Prod.fst q) (by show (13 : Nat) ≠ 14; decide))
  replace f15 : ∀ b, Γ16 b ≠ (15, ii) := by rw [eΓ16]; exact fr_up f15 (fun q => absurd (congrArg Prod.fst q) (by show (13 : Nat) ≠ 15; decide))
  replace hNw : Nw [2, 13, 14, 15] Γ Γ16 ii := by rw [eΓ16]; exact Nw.up hNw (by decide)
  have hX18 : ext Γ Γ16 := ext.trans ext.rf hx17
  have t_q15 : Γ16 q15 = (13, ii) := by rw [eΓ16, va_up_self]
  clear z_q15 s_q15 e_q15
  refine rw_X1 hx hb hA hE hG hS hown hin rfl 3 (by decide) wd_1_218 rfl (ty := .array (.object "WeekBank$Owner")) (tyX1_ok 3 (by decide)) rfl rfl (Nat.le_of_ble_eq_true rfl) dX1_init_10 (fun H locs hG hS => ?_)
  replace hG : ty_ok (dC, dI) vwCl Γ16 (TP dA Γ16 (gs (gs g9 41 ii p2.toInt) 42 ii p3.toInt)) sz ((h0, .inr (1, [.int 0, .int 0, .int 0, .ref q15, .null, .null])) :: X) H := hG
  refine lv_aload_n hx hb dX1_init_13 rfl (lv_at hl 0 rfl) ?_
  refine ty_bipush hx hb (53) dX1_init_14 (by decide) (fun x19 h20 => ?_)
  refine new_Z hx hb hA hE hG hS wd_1_156 (N := 53) (by omega) (by decide) (Nat.le_of_ble_eq_true rfl) (Nat.le_of_ble_eq_true rfl) (14, ii) (fun Γ' => by rw [TP_14 rfl]; exact ⟨_, rfl, fun j hj => (by rw [gs_r _ _ _ (by decide), gs_r _ _ _ (by decide), (show g9 44 = g5 44 from funext fun j => hf11 44 j (by decide)), hw8, fz_at, if_pos ⟨Nat.le_add_right _ _, Nat.add_lt_add_left hj _⟩]; rfl), fun j hj => Or.inl rfl⟩) dX1_init_16 (fun q21 H z_q21 s_q21 e_q21 hG hS => ?_)
  obtain ⟨Γ22, eΓ22⟩ : ∃ z, z = va_up Γ16 q21 (14, ii) := ⟨_, rfl⟩
  rw [← eΓ22] at hG
  have hx23 : ext Γ16 Γ22 := by rw [eΓ22]; exact ext.up z_q21
  have hU : Un Γ22 := by rw [eΓ22]; exact Un.upF hU f14 rfl
  replace f2 : ∀ b, Γ22 b ≠ (2, ii) := by rw [eΓ22]; exact fr_up f2 (fun q => absurd (congrArg Prod.fst q) (by show (14 : Nat) ≠ 2; decide))
  replace f15 : ∀ b, Γ22 b ≠ (15, ii) := by rw [eΓ22]; exact fr_up f15 (fun q => absurd (congrArg Prod.fst q) (by show (14 : Nat) ≠ 15; decide))
  replace hNw : Nw [2, 13, 14, 15] Γ Γ22 ii := by rw [eΓ22]; exact Nw.up hNw (by decide)
  have hX24 : ext Γ Γ22 := ext.trans hX18 hx23
  replace t_q15 : Γ22 q15 = (13, ii) := hx23.two t_q15 (by show (13 : Nat) ≠ 0; decide)
  have t_q21 : Γ22 q21 = (14, ii) := by rw [eΓ22, va_up_self]
  clear z_q21 s_q21 e_q21
  refine rw_X1 hx hb hA hE hG hS hown hin rfl 4 (by decide) wd_1_220 rfl (ty := .array .boolean) (tyX1_ok 4 (by decide)) rfl rfl (Nat.le_of_ble_eq_true rfl) dX1_init_18 (fun H locs hG hS => ?_)
  replace hG : ty_ok (dC, dI) vwCl Γ22 (TP dA Γ22 (gs (gs g9 41 ii p2.toInt) 42 ii p3.toInt)) sz ((h0, .inr (1, [.int 0, .int 0, .int 0, .ref q15, .ref q21, .null])) :: X) H := hG
  refine lv_aload_n hx hb dX1_init_21 rfl (lv_at hl 0 rfl) ?_
  refine ty_bipush hx hb (53) dX1_init_22 (by decide) (fun x25 h26 => ?_)
  refine new_R6 hx hb hA hE hG hS hown wd_1_210 (N := 53) (by omega) (by decide) (Nat.le_of_ble_eq_true rfl) (Nat.le_of_ble_eq_true rfl) (15, ii) (fun Γ' => by rw [TP_15 rfl]; exact ⟨_, rfl, fun j hj => ⟨fun _ => (by rw [gs_r _ _ _ (by decide), gs_r _ _ _ (by decide), hw12, fz_at, if_pos ⟨Nat.le_add_right _ _, Nat.add_lt_add_left hj _⟩]), fun b h => (by cases h)⟩⟩) dX1_init_24 (fun q27 H (z_q27 : ty Γ22 q27 0) s_q27 e_q27 hG hS => ?_)
  obtain ⟨Γ28, eΓ28⟩ : ∃ z, z = va_up Γ22 q27 (15, ii) := ⟨_, rfl⟩
  rw [← eΓ28] at hG
  have hx29 : ext Γ22 Γ28 := by rw [eΓ28]; exact ext.up z_q27
  have hU : Un Γ28 := by rw [eΓ28]; exact Un.upF hU f15 rfl
  replace f2 : ∀ b, Γ28 b ≠ (2, ii) := by rw [eΓ28]; exact fr_up f2 (fun q => absurd (congrArg Prod.fst q) (by show (15 : Nat) ≠ 2; decide))
  replace hNw : Nw [2, 13, 14, 15] Γ Γ28 ii := by rw [eΓ28]; exact Nw.up hNw (by decide)
  have hX30 : ext Γ Γ28 := ext.trans hX24 hx29
  replace t_q15 : Γ28 q15 = (13, ii) := hx29.two t_q15 (by show (13 : Nat) ≠ 0; decide)
  replace t_q21 : Γ28 q21 = (14, ii) := hx29.two t_q21 (by show (14 : Nat) ≠ 0; decide)
  have t_q27 : Γ28 q27 = (15, ii) := by rw [eΓ28, va_up_self]
  clear z_q27 s_q27 e_q27
  refine rw_X1 hx hb hA hE hG hS hown hin rfl 5 (by decide) wd_1_222 rfl (ty := .array (.object "WeekBank$Gift")) (tyX1_ok 5 (by decide)) rfl rfl (Nat.le_of_ble_eq_true rfl) dX1_init_27 (fun H locs hG hS => ?_)
  replace hG : ty_ok (dC, dI) vwCl Γ28 (TP dA Γ28 (gs (gs g9 41 ii p2.toInt) 42 ii p3.toInt)) sz ((h0, .inr (1, [.int 0, .int 0, .int 0, .ref q15, .ref q21, .ref q27])) :: X) H := hG
  refine lv_aload_n hx hb dX1_init_30 rfl (lv_at hl 0 rfl) ?_
  refine lv_iload_n hx hb dX1_init_31 rfl (lv_at hl 1 rfl) ?_
  refine rw_X1 hx hb hA hE hG hS hown hin rfl 0 (by decide) wd_1_211 rfl (ty := .int) (tyX1_ok 0 (by decide)) rfl rfl (Nat.le_of_ble_eq_true rfl) dX1_init_32 (fun H locs hG hS => ?_)
  replace hG : ty_ok (dC, dI) vwCl Γ28 (TP dA Γ28 (gs (gs g9 41 ii p2.toInt) 42 ii p3.toInt)) sz ((h0, .inr (1, [.int p1, .int 0, .int 0, .ref q15, .ref q21, .ref q27])) :: X) H := hG
  refine lv_aload_n hx hb dX1_init_35 rfl (lv_at hl 0 rfl) ?_
  refine lv_iload_n hx hb dX1_init_36 rfl (lv_at hl 2 rfl) ?_
  refine rw_X1 hx hb hA hE hG hS hown hin rfl 1 (by decide) wd_1_213 rfl (ty := .int) (tyX1_ok 1 (by decide)) rfl rfl (Nat.le_of_ble_eq_true rfl) dX1_init_37 (fun H locs hG hS => ?_)
  replace hG : ty_ok (dC, dI) vwCl Γ28 (TP dA Γ28 (gs (gs g9 41 ii p2.toInt) 42 ii p3.toInt)) sz ((h0, .inr (1, [.int p1, .int p2, .int 0, .ref q15, .ref q21, .ref q27])) :: X) H := hG
  refine lv_aload_n hx hb dX1_init_40 rfl (lv_at hl 0 rfl) ?_
  refine lv_iload_n hx hb dX1_init_41 rfl (lv_at hl 3 rfl) ?_
  refine rw_X1 hx hb hA hE hG hS hown hin rfl 2 (by decide) wd_1_215 rfl (ty := .int) (tyX1_ok 2 (by decide)) rfl rfl (Nat.le_of_ble_eq_true rfl) dX1_init_42 (fun H locs hG hS => ?_)
  replace hG : ty_ok (dC, dI) vwCl Γ28 (TP dA Γ28 (gs (gs g9 41 ii p2.toInt) 42 ii p3.toInt)) sz ((h0, .inr (1, [.int p1, .int p2, .int p3, .ref q15, .ref q21, .ref q27])) :: X) H := hG
  have z_own : ty Γ28 h0 0 := (hG.2.2.2 _ List.mem_cons_self).2.1
  have hx31 : ext Γ28 (va_up Γ28 h0 (2, ii)) := ext.up z_own
  have e32 : (gs (gs g9 41 ii p2.toInt) 42 ii p3.toInt) 41 ii = p2.toInt := by rw [gs_c _ _ _ _ (by decide), gs_self]
  have e33 : (gs (gs g9 41 ii p2.toInt) 42 ii p3.toInt) 42 ii = p3.toInt := by rw [gs_self]
  have hG := tp_adopt (t := (2, ii)) hG (by rw [TP_2 rfl]; exact ⟨_, rfl, rfl, fun k hk => match k, hk with
        | 0, _ => ⟨_, rfl, by omega⟩
        | 1, _ => ⟨_, rfl, by show _ = (gs (gs g9 41 ii p2.toInt) 42 ii p3.toInt) 41 ii; omega⟩
        | 2, _ => ⟨_, rfl, by show _ = (gs (gs g9 41 ii p2.toInt) 42 ii p3.toInt) 42 ii; omega⟩
        | 3, _ => ⟨_, rfl, hx31.two t_q15 (by show (13 : Nat) ≠ 0; decide)⟩
        | 4, _ => ⟨_, rfl, hx31.two t_q21 (by show (14 : Nat) ≠ 0; decide)⟩
        | 5, _ => ⟨_, rfl, hx31.two t_q27 (by show (15 : Nat) ≠ 0; decide)⟩
      ⟩)
  obtain ⟨Γ34, eΓ34⟩ : ∃ z, z = va_up Γ28 h0 (2, ii) := ⟨_, rfl⟩
  rw [← eΓ34] at hG
  have hx35 : ext Γ28 Γ34 := by rw [eΓ34]; exact ext.up z_own
  have hU : Un Γ34 := by rw [eΓ34]; exact Un.upF hU f2 rfl
  replace hNw : Nw [2, 13, 14, 15] Γ Γ34 ii := by rw [eΓ34]; exact Nw.up hNw (by decide)
  have hX36 : ext Γ Γ34 := ext.trans hX30 hx35
  replace t_q15 : Γ34 q15 = (13, ii) := hx35.two t_q15 (by show (13 : Nat) ≠ 0; decide)
  replace t_q21 : Γ34 q21 = (14, ii) := hx35.two t_q21 (by show (14 : Nat) ≠ 0; decide)
  replace t_q27 : Γ34 q27 = (15, ii) := hx35.two t_q27 (by show (15 : Nat) ≠ 0; decide)
  have t_h0 : Γ34 h0 = (2, ii) := by rw [eΓ34, va_up_self]
  clear z_own
  refine W.widen (k := 3) (n := 159) (by omega) (by omega) ?_
  exact W.vret hx hb hr (fun t ht hW => ⟨⟨(Γ34, (gs (gs g9 41 ii p2.toInt) 42 ii p3.toInt)), rfl, ⟨hX36, hU, hNw, t_h0, (fun c j h41 h42 h43 h44 h45 => by (try dsimp only); rw [gs_c _ _ _ _ h42, gs_c _ _ _ _ h41, hf11 c j h45, hf7 c j h44, hf3 c j h43]), (show (gs (gs g9 41 ii p2.toInt) 42 ii p3.toInt) 41 = pz_up (g 41) ii p2.toInt from (by rw [gs_r _ _ _ (by decide), pz_gs, (show g9 41 = g5 41 from funext fun j => hf11 41 j (by decide)), (show g5 41 = g1 41 from funext fun j => hf7 41 j (by decide)), (show g1 41 = g 41 from funext fun j => hf3 41 j (by decide))])), (show (gs (gs g9 41 ii p2.toInt) 42 ii p3.toInt) 42 = pz_up (g 42) ii p3.toInt from (by rw [pz_gs, gs_r _ _ _ (by decide), (show g9 42 = g5 42 from funext fun j => hf11 42 j (by decide)), (show g5 42 = g1 42 from funext fun j => hf7 42 j (by decide)), (show g1 42 = g 42 from funext fun j => hf3 42 j (by decide))])), (show (gs (gs g9 41 ii p2.toInt) 42 ii p3.toInt) 43 = fz (g 43) (53 * ii) (-1) 53 from (by rw [gs_r _ _ _ (by decide), gs_r _ _ _ (by decide), (show g9 43 = g5 43 from funext fun j => hf11 43 j (by decide)), (show g5 43 = g1 43 from funext fun j => hf7 43 j (by decide)), hw4])), (show (gs (gs g9 41 ii p2.toInt) 42 ii p3.toInt) 44 = fz (g 44) (53 * ii) (0) 53 from (by rw [gs_r _ _ _ (by decide), gs_r _ _ _ (by decide), (show g9 44 = g5 44 from funext fun j => hf11 44 j (by decide)), hw8])), (show (gs (gs g9 41 ii p2.toInt) 42 ii p3.toInt) 45 = fz (g 45) (53 * ii) (-1) 53 from (by rw [gs_r _ _ _ (by decide), gs_r _ _ _ (by decide), hw12]))⟩, ok2 ht hG⟩, hS.F ht⟩) hS.2.2 dX1_init_45

set_option maxHeartbeats 4000000 in
set_option maxRecDepth 100000 in
/-- WeekBank$Owner.<init>:  -/
theorem k_X3_init (l : Launch) (dC : Nat → ClassId) (dI : Nat → Nat → Nat) (dA : Nat → ClassId) (sz : Nat) (X : va_W) (Γ : ty_G) (hU : Un Γ) (g : gh) (h0 : Nat) (p1 : Int32) (p2 : Int32) (ii : Nat) (hii : p1.toInt = (ii : Int)) (f3 : ∀ b, Γ b ≠ (3, ii)) : Met l yX3_init (.code yX3_init cX3_init 3 (Option.none : Option Jvm.ClassFile.FieldType) :: AL) ({ frames := 1, cells := 0, slots := 0, locals := 12 }) (PCx dC dI dA sz ((h0, .inr (3, dv_X3)) :: X) Γ g [.ref h0, .int p1, .int p2]) (va_Qv (fun (u : (ty_G × gh)) => ext Γ u.1 ∧ Un u.1 ∧ Nw [3] Γ u.1 ii ∧ u.1 h0 = (3, ii) ∧ (∀ c j : Nat, c ≠ 50 → c ≠ 51 → c ≠ 52 → c ≠ 53 → c ≠ 54 → c ≠ 55 → c ≠ 56 → u.2 c j = g c j) ∧ (u.2 50 = pz_up (g 50) ii p2.toInt) ∧ (u.2 51 = pz_up (g 51) ii 0) ∧ (u.2 52 = pz_up (g 52) ii 0) ∧ (u.2 53 = pz_up (g 53) ii 0) ∧ (u.2 54 = pz_up (g 54) ii 0) ∧ (u.2 55 = pz_up (g 55) ii 0) ∧ (u.2 56 = pz_up (g 56) ii (-1))) (okB dC dI dA sz X) (ty_A sz)) 0 0 (ty_A sz) := by
  refine Met.ofW (cc := cX3_init) (maxL := 3) (ret := (Option.none : Option Jvm.ClassFile.FieldType)) (by decide) rfl ?_
  intro p e s m args below meth c s₁ B hml hv
  obtain ⟨rfl, hG, hE⟩ := hv
  have hx := B.exec
  have hb := B.bytes
  have hr := B.returns
  have hts := atoms_spec B.pre
  have hA : ∀ w ∈ AL, w.before _ s = true := fun w h => hts w (List.mem_cons_of_mem _ h)
  have hown : s.vm.findClass RX3 = some m.cls := findClass_of_methodNamed B.named
  have hlocks := B.notSynchronized
  have hin : meth.name = "<init>" := (name_of_methodNamed B.named B.method).1
  have hS : va_S (ty_A sz) s.heap s.heap [] := va_S.rf
  have hNw : Nw [3] Γ Γ ii := Nw.rf
  have hG := ty_gset (c := 50) (j := ii) (z := p2.toInt) hG (dp_fr f3)
  have hG := ty_gset (c := 51) (j := ii) (z := 0) hG (dp_fr f3)
  have hG := ty_gset (c := 52) (j := ii) (z := 0) hG (dp_fr f3)
  generalize eg2 : (gs (gs (gs g 50 ii p2.toInt) 51 ii 0) 52 ii 0) = g1 at hG
  have hf3 : ∀ c j : Nat, c ≠ 50 → c ≠ 51 → c ≠ 52 → g1 c j = g c j := fun c j h50 h51 h52 => by rw [← eg2, gs_c _ _ _ _ h52, gs_c _ _ _ _ h51, gs_c _ _ _ _ h50]
  have v4 : g1 50 ii = p2.toInt := by rw [← eg2, gs_c _ _ _ _ (by decide), gs_c _ _ _ _ (by decide), gs_self]
  have hw5 : g1 50 = (pz_up (g 50) ii p2.toInt) := by rw [← eg2, gs_r _ _ _ (by decide), gs_r _ _ _ (by decide), pz_gs]
  have v6 : g1 51 ii = 0 := by rw [← eg2, gs_c _ _ _ _ (by decide), gs_self]
  have hw7 : g1 51 = (pz_up (g 51) ii 0) := by rw [← eg2, gs_r _ _ _ (by decide), pz_gs, gs_r _ _ _ (by decide)]
  have v8 : g1 52 ii = 0 := by rw [← eg2, gs_self]
  have hw9 : g1 52 = (pz_up (g 52) ii 0) := by rw [← eg2, pz_gs, gs_r _ _ _ (by decide), gs_r _ _ _ (by decide)]
  have hG := ty_gset (c := 53) (j := ii) (z := 0) hG (dp_fr f3)
  have hG := ty_gset (c := 54) (j := ii) (z := 0) hG (dp_fr f3)
  have hG := ty_gset (c := 55) (j := ii) (z := 0) hG (dp_fr f3)
  generalize eg11 : (gs (gs (gs g1 53 ii 0) 54 ii 0) 55 ii 0) = g10 at hG
  have hf12 : ∀ c j : Nat, c ≠ 53 → c ≠ 54 → c ≠ 55 → g10 c j = g1 c j := fun c j h53 h54 h55 => by rw [← eg11, gs_c _ _ _ _ h55, gs_c _ _ _ _ h54, gs_c _ _ _ _ h53]
  have v13 : g10 53 ii = 0 := by rw [← eg11, gs_c _ _ _ _ (by decide), gs_c _ _ _ _ (by decide), gs_self]
  have hw14 : g10 53 = (pz_up (g 53) ii 0) := by rw [← eg11, gs_r _ _ _ (by decide), gs_r _ _ _ (by decide), pz_gs, (show g1 53 = g 53 from funext fun j => hf3 53 j (by decide) (by decide) (by decide))]
  have v15 : g10 54 ii = 0 := by rw [← eg11, gs_c _ _ _ _ (by decide), gs_self]
  have hw16 : g10 54 = (pz_up (g 54) ii 0) := by rw [← eg11, gs_r _ _ _ (by decide), pz_gs, gs_r _ _ _ (by decide), (show g1 54 = g 54 from funext fun j => hf3 54 j (by decide) (by decide) (by decide))]
  have v17 : g10 55 ii = 0 := by rw [← eg11, gs_self]
  have hw18 : g10 55 = (pz_up (g 55) ii 0) := by rw [← eg11, pz_gs, gs_r _ _ _ (by decide), gs_r _ _ _ (by decide), (show g1 55 = g 55 from funext fun j => hf3 55 j (by decide) (by decide) (by decide))]
  have hG := ty_gset (c := 56) (j := ii) (z := (-1)) hG (dp_fr f3)
  have hl := lv_entry ([.ref h0, .int p1, .int p2]) (n := 3) (Nat.le_of_ble_eq_true rfl)
  rw [lg_entry_eq]
  generalize (lg_sl ([.ref h0, .int p1, .int p2]) ++ List.replicate (3 - (lg_sl ([.ref h0, .int p1, .int p2])).length) Slot.unset).toArray = ls at hl ⊢
  have hl : lv_has ls 3 [(0, .ref h0), (1, .int p1), (2, .int p2)] := hl
  refine lv_aload_n hx hb dX3_init_0 rfl (lv_at hl 0 rfl) ?_
  refine W.objInit hx hb hown (hA _ wd_2_5) (hA _ wd_1_28) (hA _ wd_1_29) rfl (by rw [hml]; exact hl.1) rfl dX3_init_1 (Nat.le_of_ble_eq_true rfl) (Nat.le_of_ble_eq_true rfl) ?_
  refine W.eq (g2 := F0 m 4 ls []) rfl ?_
  refine lv_aload_n hx hb dX3_init_4 rfl (lv_at hl 0 rfl) ?_
  refine ty_iconst hx hb (0) dX3_init_5 (by decide) (fun x19 h20 => ?_)
  refine rw_X3 hx hb hA hE hG hS hown hin rfl 2 (by decide) wd_2_10 rfl (ty := .int) (tyX3_ok 2 (by decide)) rfl rfl (Nat.le_of_ble_eq_true rfl) dX3_init_6 (fun H locs hG hS => ?_)
  replace hG : ty_ok (dC, dI) vwCl Γ (TP dA Γ (gs g10 56 ii (-1))) sz ((h0, .inr (3, [.int 0, .int 0, .int x19, .int 0, .int 0, .int 0, .int 0, .null])) :: X) H := hG
  refine lv_aload_n hx hb dX3_init_9 rfl (lv_at hl 0 rfl) ?_
  refine ty_iconst hx hb (0) dX3_init_10 (by decide) (fun x21 h22 => ?_)
  refine rw_X3 hx hb hA hE hG hS hown hin rfl 3 (by decide) wd_2_13 rfl (ty := .int) (tyX3_ok 3 (by decide)) rfl rfl (Nat.le_of_ble_eq_true rfl) dX3_init_11 (fun H locs hG hS => ?_)
  replace hG : ty_ok (dC, dI) vwCl Γ (TP dA Γ (gs g10 56 ii (-1))) sz ((h0, .inr (3, [.int 0, .int 0, .int x19, .int x21, .int 0, .int 0, .int 0, .null])) :: X) H := hG
  refine lv_aload_n hx hb dX3_init_14 rfl (lv_at hl 0 rfl) ?_
  refine ty_iconst hx hb (0) dX3_init_15 (by decide) (fun x23 h24 => ?_)
  refine rw_X3 hx hb hA hE hG hS hown hin rfl 4 (by decide) wd_2_15 rfl (ty := .int) (tyX3_ok 4 (by decide)) rfl rfl (Nat.le_of_ble_eq_true rfl) dX3_init_16 (fun H locs hG hS => ?_)
  replace hG : ty_ok (dC, dI) vwCl Γ (TP dA Γ (gs g10 56 ii (-1))) sz ((h0, .inr (3, [.int 0, .int 0, .int x19, .int x21, .int x23, .int 0, .int 0, .null])) :: X) H := hG
  refine lv_aload_n hx hb dX3_init_19 rfl (lv_at hl 0 rfl) ?_
  refine ty_iconst hx hb (0) dX3_init_20 (by decide) (fun x25 h26 => ?_)
  refine rw_X3 hx hb hA hE hG hS hown hin rfl 5 (by decide) wd_2_18 rfl (ty := .boolean) (tyX3_ok 5 (by decide)) (ty_nb (by omega)).1 (ty_nb (by omega)).2.1 (Nat.le_of_ble_eq_true rfl) dX3_init_21 (fun H locs hG hS => ?_)
  replace hG : ty_ok (dC, dI) vwCl Γ (TP dA Γ (gs g10 56 ii (-1))) sz ((h0, .inr (3, [.int 0, .int 0, .int x19, .int x21, .int x23, .int x25, .int 0, .null])) :: X) H := hG
  refine lv_aload_n hx hb dX3_init_24 rfl (lv_at hl 0 rfl) ?_
  refine ty_iconst hx hb (0) dX3_init_25 (by decide) (fun x27 h28 => ?_)
  refine rw_X3 hx hb hA hE hG hS hown hin rfl 6 (by decide) wd_2_20 rfl (ty := .boolean) (tyX3_ok 6 (by decide)) (ty_nb (by omega)).1 (ty_nb (by omega)).2.1 (Nat.le_of_ble_eq_true rfl) dX3_init_26 (fun H locs hG hS => ?_)
  replace hG : ty_ok (dC, dI) vwCl Γ (TP dA Γ (gs g10 56 ii (-1))) sz ((h0, .inr (3, [.int 0, .int 0, .int x19, .int x21, .int x23, .int x25, .int x27, .null])) :: X) H := hG
  refine lv_aload_n hx hb dX3_init_29 rfl (lv_at hl 0 rfl) ?_
  refine lv_null hx hb dX3_init_30 ?_
  refine rw_X3 hx hb hA hE hG hS hown hin rfl 7 (by decide) wd_2_22 rfl (ty := .object "WeekBank$Wish") (tyX3_ok 7 (by decide)) rfl rfl (Nat.le_of_ble_eq_true rfl) dX3_init_31 (fun H locs hG hS => ?_)
  replace hG : ty_ok (dC, dI) vwCl Γ (TP dA Γ (gs g10 56 ii (-1))) sz ((h0, .inr (3, [.int 0, .int 0, .int x19, .int x21, .int x23, .int x25, .int x27, .null])) :: X) H := hG
  refine lv_aload_n hx hb dX3_init_34 rfl (lv_at hl 0 rfl) ?_
  refine lv_iload_n hx hb dX3_init_35 rfl (lv_at hl 1 rfl) ?_
  refine rw_X3 hx hb hA hE hG hS hown hin rfl 0 (by decide) wd_2_6 rfl (ty := .int) (tyX3_ok 0 (by decide)) rfl rfl (Nat.le_of_ble_eq_true rfl) dX3_init_36 (fun H locs hG hS => ?_)
  replace hG : ty_ok (dC, dI) vwCl Γ (TP dA Γ (gs g10 56 ii (-1))) sz ((h0, .inr (3, [.int p1, .int 0, .int x19, .int x21, .int x23, .int x25, .int x27, .null])) :: X) H := hG
  refine lv_aload_n hx hb dX3_init_39 rfl (lv_at hl 0 rfl) ?_
  refine lv_iload_n hx hb dX3_init_40 rfl (lv_at hl 2 rfl) ?_
  refine rw_X3 hx hb hA hE hG hS hown hin rfl 1 (by decide) wd_2_8 rfl (ty := .int) (tyX3_ok 1 (by decide)) rfl rfl (Nat.le_of_ble_eq_true rfl) dX3_init_41 (fun H locs hG hS => ?_)
  replace hG : ty_ok (dC, dI) vwCl Γ (TP dA Γ (gs g10 56 ii (-1))) sz ((h0, .inr (3, [.int p1, .int p2, .int x19, .int x21, .int x23, .int x25, .int x27, .null])) :: X) H := hG
  have z_own : ty Γ h0 0 := (hG.2.2.2 _ List.mem_cons_self).2.1
  have hx29 : ext Γ (va_up Γ h0 (3, ii)) := ext.up z_own
  have hk30 : g10 50 ii = g1 50 ii := hf12 50 ii (by decide) (by decide) (by decide)
  have e31 : (gs g10 56 ii (-1)) 50 ii = g10 50 ii := by rw [gs_c _ _ _ _ (by decide)]
  have hk32 : g10 51 ii = g1 51 ii := hf12 51 ii (by decide) (by decide) (by decide)
  have e33 : (gs g10 56 ii (-1)) 51 ii = g10 51 ii := by rw [gs_c _ _ _ _ (by decide)]
  have hk34 : g10 52 ii = g1 52 ii := hf12 52 ii (by decide) (by decide) (by decide)
  have e35 : (gs g10 56 ii (-1)) 52 ii = g10 52 ii := by rw [gs_c _ _ _ _ (by decide)]
  have e36 : (gs g10 56 ii (-1)) 53 ii = g10 53 ii := by rw [gs_c _ _ _ _ (by decide)]
  have e37 : (gs g10 56 ii (-1)) 54 ii = g10 54 ii := by rw [gs_c _ _ _ _ (by decide)]
  have e38 : (gs g10 56 ii (-1)) 55 ii = g10 55 ii := by rw [gs_c _ _ _ _ (by decide)]
  have e39 : (gs g10 56 ii (-1)) 56 ii = (-1) := by rw [gs_self]
  have hG := tp_adopt (t := (3, ii)) hG (by rw [TP_3 rfl]; exact ⟨_, rfl, rfl, fun k hk => match k, hk with
        | 0, _ => ⟨_, rfl, by omega⟩
        | 1, _ => ⟨_, rfl, by show _ = (gs g10 56 ii (-1)) 50 ii; omega⟩
        | 2, _ => ⟨_, rfl, by show _ = (gs g10 56 ii (-1)) 51 ii; omega⟩
        | 3, _ => ⟨_, rfl, by show _ = (gs g10 56 ii (-1)) 52 ii; omega⟩
        | 4, _ => ⟨_, rfl, by show _ = (gs g10 56 ii (-1)) 53 ii; omega⟩
        | 5, _ => ⟨_, rfl, by show _ = (gs g10 56 ii (-1)) 54 ii; omega, by first | exact Or.inl rfl | omega⟩
        | 6, _ => ⟨_, rfl, by show _ = (gs g10 56 ii (-1)) 55 ii; omega, by first | exact Or.inl rfl | omega⟩
        | 7, _ => ⟨none, rfl, fun _ => (by show (gs g10 56 ii (-1)) 56 ii = -1; omega), fun _ h => by cases h⟩
      ⟩)
  obtain ⟨Γ40, eΓ40⟩ : ∃ z, z = va_up Γ h0 (3, ii) := ⟨_, rfl⟩
  rw [← eΓ40] at hG
  have hx41 : ext Γ Γ40 := by rw [eΓ40]; exact ext.up z_own
  have hU : Un Γ40 := by rw [eΓ40]; exact Un.upF hU f3 rfl
  replace hNw : Nw [3] Γ Γ40 ii := by rw [eΓ40]; exact Nw.up hNw (by decide)
  have hX42 : ext Γ Γ40 := ext.trans ext.rf hx41
  have t_h0 : Γ40 h0 = (3, ii) := by rw [eΓ40, va_up_self]
  clear z_own
  exact W.vret hx hb hr (fun t ht hW => ⟨⟨(Γ40, (gs g10 56 ii (-1))), rfl, ⟨hX42, hU, hNw, t_h0, (fun c j h50 h51 h52 h53 h54 h55 h56 => by (try dsimp only); rw [gs_c _ _ _ _ h56, hf12 c j h53 h54 h55, hf3 c j h50 h51 h52]), (show (gs g10 56 ii (-1)) 50 = pz_up (g 50) ii p2.toInt from (by rw [gs_r _ _ _ (by decide), (show g10 50 = g1 50 from funext fun j => hf12 50 j (by decide) (by decide) (by decide)), hw5])), (show (gs g10 56 ii (-1)) 51 = pz_up (g 51) ii 0 from (by rw [gs_r _ _ _ (by decide), (show g10 51 = g1 51 from funext fun j => hf12 51 j (by decide) (by decide) (by decide)), hw7])), (show (gs g10 56 ii (-1)) 52 = pz_up (g 52) ii 0 from (by rw [gs_r _ _ _ (by decide), (show g10 52 = g1 52 from funext fun j => hf12 52 j (by decide) (by decide) (by decide)), hw9])), (show (gs g10 56 ii (-1)) 53 = pz_up (g 53) ii 0 from (by rw [gs_r _ _ _ (by decide), hw14])), (show (gs g10 56 ii (-1)) 54 = pz_up (g 54) ii 0 from (by rw [gs_r _ _ _ (by decide), hw16])), (show (gs g10 56 ii (-1)) 55 = pz_up (g 55) ii 0 from (by rw [gs_r _ _ _ (by decide), hw18])), (show (gs g10 56 ii (-1)) 56 = pz_up (g 56) ii (-1) from (by rw [pz_gs, (show g10 56 = g1 56 from funext fun j => hf12 56 j (by decide) (by decide) (by decide)), (show g1 56 = g 56 from funext fun j => hf3 56 j (by decide) (by decide) (by decide))]))⟩, ok2 ht hG⟩, hS.F ht⟩) hS.2.2 dX3_init_44

set_option maxHeartbeats 4000000 in
set_option maxRecDepth 100000 in
/-- WeekBank.flat:  -/
theorem k_X8_flat (l : Launch) (dC : Nat → ClassId) (dI : Nat → Nat → Nat) (dA : Nat → ClassId) (sz : Nat) (X : va_W) (Γ : ty_G) (hU : Un Γ) (g : gh) (h0 : Nat) (t_h0 : ty Γ h0 1) (p1 : Int32) (p2 : Int32) (g1 : g 1 0 = g 33 0 ∧ 0 ≤ g 1 0 ∧ g 1 0 ≤ 6) (hBd : Bd Γ g) : Met l yX8_flat (.code yX8_flat cX8_flat 4 (Option.some Jvm.ClassFile.FieldType.int) :: AL) ({ frames := 2, cells := 4, slots := 165, locals := 35 }) (PCx dC dI dA sz X Γ g [.ref h0, .int p1, .int p2]) (va_Qi (fun (r : Int32) (u : (ty_G × gh)) => ext Γ u.1 ∧ Un u.1 ∧ Bd u.1 u.2 ∧ (∀ c j : Nat, c ≠ 1 → c ≠ 33 → c ≠ 41 → c ≠ 42 → c ≠ 43 → c ≠ 44 → c ≠ 45 → u.2 c j = g c j) ∧ ((0 ≤ p1.toInt ∧ p1.toInt ≤ 3 ∧ 1 ≤ p2.toInt ∧ p2.toInt ≤ 4 ∧ g 1 0 < 6 → r.toInt = g 1 0 ∧ u.2 1 0 = g 1 0 + 1 ∧ u.2 33 0 = g 1 0 + 1) ∧ (¬ (0 ≤ p1.toInt ∧ p1.toInt ≤ 3 ∧ 1 ≤ p2.toInt ∧ p2.toInt ≤ 4 ∧ g 1 0 < 6) → r.toInt = -1 ∧ u.2 1 0 = g 1 0 ∧ u.2 33 0 = g 1 0)) ∧ ((0 ≤ p1.toInt ∧ p1.toInt ≤ 3 ∧ 1 ≤ p2.toInt ∧ p2.toInt ≤ 4 ∧ g 1 0 < 6 → u.2 41 = pz_up (g 41) (g 1 0).toNat p1.toInt) ∧ (¬ (0 ≤ p1.toInt ∧ p1.toInt ≤ 3 ∧ 1 ≤ p2.toInt ∧ p2.toInt ≤ 4 ∧ g 1 0 < 6) → u.2 41 = g 41)) ∧ ((0 ≤ p1.toInt ∧ p1.toInt ≤ 3 ∧ 1 ≤ p2.toInt ∧ p2.toInt ≤ 4 ∧ g 1 0 < 6 → u.2 42 = pz_up (g 42) (g 1 0).toNat p2.toInt) ∧ (¬ (0 ≤ p1.toInt ∧ p1.toInt ≤ 3 ∧ 1 ≤ p2.toInt ∧ p2.toInt ≤ 4 ∧ g 1 0 < 6) → u.2 42 = g 42)) ∧ ((0 ≤ p1.toInt ∧ p1.toInt ≤ 3 ∧ 1 ≤ p2.toInt ∧ p2.toInt ≤ 4 ∧ g 1 0 < 6 → u.2 43 = fz (g 43) (53 * (g 1 0).toNat) (-1) 53) ∧ (¬ (0 ≤ p1.toInt ∧ p1.toInt ≤ 3 ∧ 1 ≤ p2.toInt ∧ p2.toInt ≤ 4 ∧ g 1 0 < 6) → u.2 43 = g 43)) ∧ ((0 ≤ p1.toInt ∧ p1.toInt ≤ 3 ∧ 1 ≤ p2.toInt ∧ p2.toInt ≤ 4 ∧ g 1 0 < 6 → u.2 44 = fz (g 44) (53 * (g 1 0).toNat) (0) 53) ∧ (¬ (0 ≤ p1.toInt ∧ p1.toInt ≤ 3 ∧ 1 ≤ p2.toInt ∧ p2.toInt ≤ 4 ∧ g 1 0 < 6) → u.2 44 = g 44)) ∧ ((0 ≤ p1.toInt ∧ p1.toInt ≤ 3 ∧ 1 ≤ p2.toInt ∧ p2.toInt ≤ 4 ∧ g 1 0 < 6 → u.2 45 = fz (g 45) (53 * (g 1 0).toNat) (-1) 53) ∧ (¬ (0 ≤ p1.toInt ∧ p1.toInt ≤ 3 ∧ 1 ≤ p2.toInt ∧ p2.toInt ≤ 4 ∧ g 1 0 < 6) → u.2 45 = g 45))) (okB dC dI dA sz X) (ty_A sz)) 4 165 (ty_A sz) := by
  refine Met.ofW (cc := cX8_flat) (maxL := 4) (ret := (Option.some Jvm.ClassFile.FieldType.int)) (by decide) rfl ?_
  intro p e s m args below meth c s₁ B hml hv
  obtain ⟨rfl, hG, hE⟩ := hv
  have hx := B.exec
  have hb := B.bytes
  have hr := B.returns
  have hts := atoms_spec B.pre
  have hA : ∀ w ∈ AL, w.before _ s = true := fun w h => hts w (List.mem_cons_of_mem _ h)
  have hown : s.vm.findClass RX8 = some m.cls := findClass_of_methodNamed B.named
  have hlocks := B.notSynchronized
  have hS : va_S (ty_A sz) s.heap s.heap [] := va_S.rf
  have hl := lv_entry ([.ref h0, .int p1, .int p2]) (n := 4) (Nat.le_of_ble_eq_true rfl)
  rw [lg_entry_eq]
  generalize (lg_sl ([.ref h0, .int p1, .int p2]) ++ List.replicate (4 - (lg_sl ([.ref h0, .int p1, .int p2])).length) Slot.unset).toArray = ls at hl ⊢
  have hl : lv_has ls 4 [(0, .ref h0), (1, .int p1), (2, .int p2)] := hl
  refine lv_iload_n hx hb dX8_flat_0 rfl (lv_at hl 1 rfl) ?_
  refine ty_if_lt (tgt := 25) hx hb dX8_flat_1 (by decide) (fun c1 => ?_) (fun c1 => ?_)
  · skip
    refine ty_iconst hx hb (-1) dX8_flat_25 (by decide) (fun x2 h3 => ?_)
    refine W.widen (k := 4) (n := 165) (by omega) (by omega) ?_
    exact W.iret (v := x2) hx hb hr (fun t ht hW => ⟨⟨x2, (Γ, g), rfl, ⟨ext.rf, hU, (hBd), (fun c j h1 h33 h41 h42 h43 h44 h45 => by rfl), (by dsimp only; omega), (show (0 ≤ p1.toInt ∧ p1.toInt ≤ 3 ∧ 1 ≤ p2.toInt ∧ p2.toInt ≤ 4 ∧ g 1 0 < 6 → g 41 = pz_up (g 41) (g 1 0).toNat p1.toInt) ∧ (¬ (0 ≤ p1.toInt ∧ p1.toInt ≤ 3 ∧ 1 ≤ p2.toInt ∧ p2.toInt ≤ 4 ∧ g 1 0 < 6) → g 41 = g 41) from (⟨fun q => absurd q (by omega), fun _ => rfl⟩)), (show (0 ≤ p1.toInt ∧ p1.toInt ≤ 3 ∧ 1 ≤ p2.toInt ∧ p2.toInt ≤ 4 ∧ g 1 0 < 6 → g 42 = pz_up (g 42) (g 1 0).toNat p2.toInt) ∧ (¬ (0 ≤ p1.toInt ∧ p1.toInt ≤ 3 ∧ 1 ≤ p2.toInt ∧ p2.toInt ≤ 4 ∧ g 1 0 < 6) → g 42 = g 42) from (⟨fun q => absurd q (by omega), fun _ => rfl⟩)), (show (0 ≤ p1.toInt ∧ p1.toInt ≤ 3 ∧ 1 ≤ p2.toInt ∧ p2.toInt ≤ 4 ∧ g 1 0 < 6 → g 43 = fz (g 43) (53 * (g 1 0).toNat) (-1) 53) ∧ (¬ (0 ≤ p1.toInt ∧ p1.toInt ≤ 3 ∧ 1 ≤ p2.toInt ∧ p2.toInt ≤ 4 ∧ g 1 0 < 6) → g 43 = g 43) from (⟨fun q => absurd q (by omega), fun _ => rfl⟩)), (show (0 ≤ p1.toInt ∧ p1.toInt ≤ 3 ∧ 1 ≤ p2.toInt ∧ p2.toInt ≤ 4 ∧ g 1 0 < 6 → g 44 = fz (g 44) (53 * (g 1 0).toNat) (0) 53) ∧ (¬ (0 ≤ p1.toInt ∧ p1.toInt ≤ 3 ∧ 1 ≤ p2.toInt ∧ p2.toInt ≤ 4 ∧ g 1 0 < 6) → g 44 = g 44) from (⟨fun q => absurd q (by omega), fun _ => rfl⟩)), (show (0 ≤ p1.toInt ∧ p1.toInt ≤ 3 ∧ 1 ≤ p2.toInt ∧ p2.toInt ≤ 4 ∧ g 1 0 < 6 → g 45 = fz (g 45) (53 * (g 1 0).toNat) (-1) 53) ∧ (¬ (0 ≤ p1.toInt ∧ p1.toInt ≤ 3 ∧ 1 ≤ p2.toInt ∧ p2.toInt ≤ 4 ∧ g 1 0 < 6) → g 45 = g 45) from (⟨fun q => absurd q (by omega), fun _ => rfl⟩))⟩, ok2 ht hG⟩, hS.F ht⟩) hS.2.2 dX8_flat_26
  · skip
    refine lv_iload_n hx hb dX8_flat_4 rfl (lv_at hl 1 rfl) ?_
    refine ty_iconst hx hb (3) dX8_flat_5 (by decide) (fun x4 h5 => ?_)
    refine ty_icmp_gt (tgt := 25) hx hb dX8_flat_6 (by decide) (fun c6 => ?_) (fun c6 => ?_)
    · skip
      refine ty_iconst hx hb (-1) dX8_flat_25 (by decide) (fun x7 h8 => ?_)
      refine W.widen (k := 4) (n := 165) (by omega) (by omega) ?_
      exact W.iret (v := x7) hx hb hr (fun t ht hW => ⟨⟨x7, (Γ, g), rfl, ⟨ext.rf, hU, (hBd), (fun c j h1 h33 h41 h42 h43 h44 h45 => by rfl), (by dsimp only; omega), (show (0 ≤ p1.toInt ∧ p1.toInt ≤ 3 ∧ 1 ≤ p2.toInt ∧ p2.toInt ≤ 4 ∧ g 1 0 < 6 → g 41 = pz_up (g 41) (g 1 0).toNat p1.toInt) ∧ (¬ (0 ≤ p1.toInt ∧ p1.toInt ≤ 3 ∧ 1 ≤ p2.toInt ∧ p2.toInt ≤ 4 ∧ g 1 0 < 6) → g 41 = g 41) from (⟨fun q => absurd q (by omega), fun _ => rfl⟩)), (show (0 ≤ p1.toInt ∧ p1.toInt ≤ 3 ∧ 1 ≤ p2.toInt ∧ p2.toInt ≤ 4 ∧ g 1 0 < 6 → g 42 = pz_up (g 42) (g 1 0).toNat p2.toInt) ∧ (¬ (0 ≤ p1.toInt ∧ p1.toInt ≤ 3 ∧ 1 ≤ p2.toInt ∧ p2.toInt ≤ 4 ∧ g 1 0 < 6) → g 42 = g 42) from (⟨fun q => absurd q (by omega), fun _ => rfl⟩)), (show (0 ≤ p1.toInt ∧ p1.toInt ≤ 3 ∧ 1 ≤ p2.toInt ∧ p2.toInt ≤ 4 ∧ g 1 0 < 6 → g 43 = fz (g 43) (53 * (g 1 0).toNat) (-1) 53) ∧ (¬ (0 ≤ p1.toInt ∧ p1.toInt ≤ 3 ∧ 1 ≤ p2.toInt ∧ p2.toInt ≤ 4 ∧ g 1 0 < 6) → g 43 = g 43) from (⟨fun q => absurd q (by omega), fun _ => rfl⟩)), (show (0 ≤ p1.toInt ∧ p1.toInt ≤ 3 ∧ 1 ≤ p2.toInt ∧ p2.toInt ≤ 4 ∧ g 1 0 < 6 → g 44 = fz (g 44) (53 * (g 1 0).toNat) (0) 53) ∧ (¬ (0 ≤ p1.toInt ∧ p1.toInt ≤ 3 ∧ 1 ≤ p2.toInt ∧ p2.toInt ≤ 4 ∧ g 1 0 < 6) → g 44 = g 44) from (⟨fun q => absurd q (by omega), fun _ => rfl⟩)), (show (0 ≤ p1.toInt ∧ p1.toInt ≤ 3 ∧ 1 ≤ p2.toInt ∧ p2.toInt ≤ 4 ∧ g 1 0 < 6 → g 45 = fz (g 45) (53 * (g 1 0).toNat) (-1) 53) ∧ (¬ (0 ≤ p1.toInt ∧ p1.toInt ≤ 3 ∧ 1 ≤ p2.toInt ∧ p2.toInt ≤ 4 ∧ g 1 0 < 6) → g 45 = g 45) from (⟨fun q => absurd q (by omega), fun _ => rfl⟩))⟩, ok2 ht hG⟩, hS.F ht⟩) hS.2.2 dX8_flat_26
    · skip
      refine lv_iload_n hx hb dX8_flat_9 rfl (lv_at hl 2 rfl) ?_
      refine cI (va_runS (As := [.int p2]) (rest := []) ⟨hx, hb, hml, hown, hA⟩ (k_X8_isSize l dC dI dA sz X Γ hU g p2   ) ⟨callB_of 1 hA (al_A wd_1_203) rfl rfl rfl (hA _ wd_1_1) (hA _ wd_1_201) (by decide +kernel) ⟨Nat.le_of_ble_eq_true rfl, Nat.le_of_ble_eq_true rfl⟩, hA _ wd_1_202⟩ ⟨bl, fun U hU9 hW9 => ⟨rfl, by rw [hU9]; exact hG, hE.go hS hU9 hW9⟩⟩ rfl rfl hl.1 rfl (lv_room (Nat.le_of_ble_eq_true rfl)) dX8_flat_10 ⟨Nat.zero_le _, Nat.zero_le _⟩) hS (fun x11 u9 H locs w10 hG hS => ?_)
      obtain ⟨eu12, w10⟩ := w10
      rw [eu12] at hG
      rcases pz_or w10 with w10 | w10
      · skip
        refine ty_if_eq (tgt := 25) hx hb dX8_flat_13 (by decide) (fun c13 => ?_) (fun c13 => ?_)
        · exfalso; omega
        · skip
          refine lv_aload_n hx hb dX8_flat_16 rfl (lv_at hl 0 rfl) ?_
          refine get_X8_1 hx hb hA hown hE hG t_h0 wd_1_158 dX8_flat_17 (fun x14 h15 => ?_)
          refine ty_bipush hx hb (6) dX8_flat_20 (by decide) (fun x17 h18 => ?_)
          refine ty_icmp_lt (tgt := 27) hx hb dX8_flat_22 (by decide) (fun c19 => ?_) (fun c19 => ?_)
          · skip
            refine lv_aload_n hx hb dX8_flat_27 rfl (lv_at hl 0 rfl) ?_
            refine get_X8_1 hx hb hA hown hE hG t_h0 wd_1_158 dX8_flat_28 (fun x20 h21 => ?_)
            refine lv_istore_n (lv' := [(3, .int x20), (0, .ref h0), (1, .int p1), (2, .int p2)]) hx hb dX8_flat_31 rfl hl (by decide) rfl (fun ls hl => ?_)
            refine lv_aload_n hx hb dX8_flat_32 rfl (lv_at hl 1 rfl) ?_
            refine get_X8_0 hx hb hA hown hE hG t_h0 wd_1_157 dX8_flat_33 (fun b23 (t_b23 : ty Γ b23 10) => ?_)
            refine lv_iload_n hx hb dX8_flat_36 rfl (lv_at hl 0 rfl) ?_
            refine new_X1 hx hb hA hE hG hS hown wd_1_30 wd_1_204 wd_1_8 (Nat.le_of_ble_eq_true rfl) (Nat.le_of_ble_eq_true rfl) dX8_flat_37 (fun q24 H z_q24 s_q24 e_q24 hG hS => ?_)
            clear z_q24 s_q24 e_q24
            refine lv_dup hx hb dX8_flat_40 rfl ?_
            refine lv_iload_n hx hb dX8_flat_41 rfl (lv_at hl 0 rfl) ?_
            refine lv_iload_n hx hb dX8_flat_42 rfl (lv_at hl 2 rfl) ?_
            refine lv_iload_n hx hb dX8_flat_43 rfl (lv_at hl 3 rfl) ?_
            refine cVB (va_runI (As := [.int x20, .int p1, .int p2]) (rest := [.ref q24, .int x20, .ref b23]) ⟨hx, hb, hml, hown, hA⟩ (k_X1_init l dC dI dA sz X Γ hU g q24 x20 p1 p2 x20.toInt.toNat  (by omega) (Bd.fr hBd (Or.inl rfl) (by omega)) (Bd.fr hBd (Or.inr (Or.inl rfl)) (by omega)) (Bd.fr hBd (Or.inr (Or.inr (Or.inl rfl))) (by omega)) (Bd.fr hBd (Or.inr (Or.inr (Or.inr rfl))) (by omega))) ⟨callB_of 3 hA (al_A wd_1_207) rfl rfl rfl (hA _ wd_1_8) (hA _ wd_1_205) (by decide +kernel) ⟨Nat.le_of_ble_eq_true rfl, Nat.le_of_ble_eq_true rfl⟩, rfl, hA _ wd_1_206⟩ ⟨bl, fun U hU9 hW9 => ⟨rfl, by rw [hU9]; exact hG, hE.go hS hU9 hW9⟩⟩ rfl rfl hl.1 rfl (lv_room (Nat.le_of_ble_eq_true rfl)) dX8_flat_44 ⟨Nat.le_of_ble_eq_true rfl, Nat.le_of_ble_eq_true rfl⟩) hS (fun u25 H locs w26 hG hS => ?_)
            obtain ⟨Γ27, g28⟩ := u25
            dsimp only at w26 hG
            obtain ⟨hx29, hU, hN34, t_q24, hf31, hq35, hq36, hq37, hq38, hq39⟩ := w26
            have hX40 : ext Γ Γ27 := ext.trans ext.rf hx29
            replace t_h0 : ty Γ27 h0 1 := hx29.one t_h0 (by decide)
            replace t_b23 : ty Γ27 b23 10 := hx29.one t_b23 (by decide)
            have hk41 : g28 33 0 = g 33 0 := hf31 33 0 (by decide) (by decide) (by decide) (by decide) (by decide)
            refine ast_10 hx hb hE hG hS hU t_b23 (t_q24.trans (by rw [show x20.toInt.toNat = x20.toInt.toNat by omega])) (by omega) (by omega) dX8_flat_47 (fun H locs hG hS => ?_)
            refine lv_aload_n hx hb dX8_flat_48 rfl (lv_at hl 1 rfl) ?_
            refine lv_dup hx hb dX8_flat_49 rfl ?_
            refine get_X8_1 hx hb hA hown hE hG t_h0 wd_1_158 dX8_flat_50 (fun x42 h43 => ?_)
            replace h43 : x42.toInt = g28 1 0 := by rw [h43, gs_c _ _ _ _ (by decide)]
            have hk45 : g28 1 0 = g 1 0 := hf31 1 0 (by decide) (by decide) (by decide) (by decide) (by decide)
            refine ty_iconst hx hb (1) dX8_flat_53 (by decide) (fun x46 h47 => ?_)
            refine ty_iadd hx hb dX8_flat_54 (fun x48 h49 => ?_)
            try have h50 : x48.toInt = x42.toInt + x46.toInt := ty_add h49 (by omega) (by omega)
            refine put_X8_1 hx hb hA hown hE hG hS hU t_h0 wd_1_158 dX8_flat_55 (fun H locs hG hS => ?_)
            refine lv_iload_n hx hb dX8_flat_58 rfl (lv_at hl 0 rfl) ?_
            have e51 : (gs (gs g28 33 0 (x20.toInt + 1)) 1 0 x48.toInt) 33 0 = (x20.toInt + 1) := by rw [gs_c _ _ _ _ (by decide), gs_self]
            have hk52 : g28 34 0 = g 34 0 := hf31 34 0 (by decide) (by decide) (by decide) (by decide) (by decide)
            have e53 : (gs (gs g28 33 0 (x20.toInt + 1)) 1 0 x48.toInt) 34 0 = g28 34 0 := by rw [gs_c _ _ _ _ (by decide), gs_c _ _ _ _ (by decide)]
            have hk54 : g28 35 0 = g 35 0 := hf31 35 0 (by decide) (by decide) (by decide) (by decide) (by decide)
            have e55 : (gs (gs g28 33 0 (x20.toInt + 1)) 1 0 x48.toInt) 35 0 = g28 35 0 := by rw [gs_c _ _ _ _ (by decide), gs_c _ _ _ _ (by decide)]
            have e56 : (gs (gs g28 33 0 (x20.toInt + 1)) 1 0 x48.toInt) 1 0 = x48.toInt := by rw [gs_self]
            have e57 : (gs (gs g28 33 0 (x20.toInt + 1)) 1 0 x48.toInt) 33 0 = (x20.toInt + 1) := by rw [gs_c _ _ _ _ (by decide), gs_self]
            refine W.widen (k := 4) (n := 165) (by omega) (by omega) ?_
            exact W.iret (v := x20) hx hb hr (fun t ht hW => ⟨⟨x20, (Γ27, (gs (gs g28 33 0 (x20.toInt + 1)) 1 0 x48.toInt)), rfl, ⟨hX40, hU, (Bd.grow hBd hN34 (by dsimp only; omega) (by dsimp only; omega) (by dsimp only; omega) (by dsimp only; exact fun _ => by omega) (by dsimp only; exact fun h => absurd h (by decide)) (by dsimp only; exact fun h => absurd h (by decide))), (fun c j h1 h33 h41 h42 h43 h44 h45 => by (try dsimp only); rw [gs_c _ _ _ _ h1, gs_c _ _ _ _ h33, hf31 c j h41 h42 h43 h44 h45]), (by dsimp only; omega), (show (0 ≤ p1.toInt ∧ p1.toInt ≤ 3 ∧ 1 ≤ p2.toInt ∧ p2.toInt ≤ 4 ∧ g 1 0 < 6 → (gs (gs g28 33 0 (x20.toInt + 1)) 1 0 x48.toInt) 41 = pz_up (g 41) (g 1 0).toNat p1.toInt) ∧ (¬ (0 ≤ p1.toInt ∧ p1.toInt ≤ 3 ∧ 1 ≤ p2.toInt ∧ p2.toInt ≤ 4 ∧ g 1 0 < 6) → (gs (gs g28 33 0 (x20.toInt + 1)) 1 0 x48.toInt) 41 = g 41) from (⟨fun q => by rw [gs_r _ _ _ (by decide), gs_r _ _ _ (by decide), hq35]; rw [show x20.toInt.toNat = (g 1 0).toNat by omega], fun q => absurd (by omega) q⟩)), (show (0 ≤ p1.toInt ∧ p1.toInt ≤ 3 ∧ 1 ≤ p2.toInt ∧ p2.toInt ≤ 4 ∧ g 1 0 < 6 → (gs (gs g28 33 0 (x20.toInt + 1)) 1 0 x48.toInt) 42 = pz_up (g 42) (g 1 0).toNat p2.toInt) ∧ (¬ (0 ≤ p1.toInt ∧ p1.toInt ≤ 3 ∧ 1 ≤ p2.toInt ∧ p2.toInt ≤ 4 ∧ g 1 0 < 6) → (gs (gs g28 33 0 (x20.toInt + 1)) 1 0 x48.toInt) 42 = g 42) from (⟨fun q => by rw [gs_r _ _ _ (by decide), gs_r _ _ _ (by decide), hq36]; rw [show x20.toInt.toNat = (g 1 0).toNat by omega], fun q => absurd (by omega) q⟩)), (show (0 ≤ p1.toInt ∧ p1.toInt ≤ 3 ∧ 1 ≤ p2.toInt ∧ p2.toInt ≤ 4 ∧ g 1 0 < 6 → (gs (gs g28 33 0 (x20.toInt + 1)) 1 0 x48.toInt) 43 = fz (g 43) (53 * (g 1 0).toNat) (-1) 53) ∧ (¬ (0 ≤ p1.toInt ∧ p1.toInt ≤ 3 ∧ 1 ≤ p2.toInt ∧ p2.toInt ≤ 4 ∧ g 1 0 < 6) → (gs (gs g28 33 0 (x20.toInt + 1)) 1 0 x48.toInt) 43 = g 43) from (⟨fun q => by rw [gs_r _ _ _ (by decide), gs_r _ _ _ (by decide), hq37]; rw [show x20.toInt.toNat = (g 1 0).toNat by omega], fun q => absurd (by omega) q⟩)), (show (0 ≤ p1.toInt ∧ p1.toInt ≤ 3 ∧ 1 ≤ p2.toInt ∧ p2.toInt ≤ 4 ∧ g 1 0 < 6 → (gs (gs g28 33 0 (x20.toInt + 1)) 1 0 x48.toInt) 44 = fz (g 44) (53 * (g 1 0).toNat) (0) 53) ∧ (¬ (0 ≤ p1.toInt ∧ p1.toInt ≤ 3 ∧ 1 ≤ p2.toInt ∧ p2.toInt ≤ 4 ∧ g 1 0 < 6) → (gs (gs g28 33 0 (x20.toInt + 1)) 1 0 x48.toInt) 44 = g 44) from (⟨fun q => by rw [gs_r _ _ _ (by decide), gs_r _ _ _ (by decide), hq38]; rw [show x20.toInt.toNat = (g 1 0).toNat by omega], fun q => absurd (by omega) q⟩)), (show (0 ≤ p1.toInt ∧ p1.toInt ≤ 3 ∧ 1 ≤ p2.toInt ∧ p2.toInt ≤ 4 ∧ g 1 0 < 6 → (gs (gs g28 33 0 (x20.toInt + 1)) 1 0 x48.toInt) 45 = fz (g 45) (53 * (g 1 0).toNat) (-1) 53) ∧ (¬ (0 ≤ p1.toInt ∧ p1.toInt ≤ 3 ∧ 1 ≤ p2.toInt ∧ p2.toInt ≤ 4 ∧ g 1 0 < 6) → (gs (gs g28 33 0 (x20.toInt + 1)) 1 0 x48.toInt) 45 = g 45) from (⟨fun q => by rw [gs_r _ _ _ (by decide), gs_r _ _ _ (by decide), hq39]; rw [show x20.toInt.toNat = (g 1 0).toNat by omega], fun q => absurd (by omega) q⟩))⟩, ok2 ht hG⟩, hS.F ht⟩) hS.2.2 dX8_flat_59
          · skip
            refine ty_iconst hx hb (-1) dX8_flat_25 (by decide) (fun x58 h59 => ?_)
            refine W.widen (k := 4) (n := 165) (by omega) (by omega) ?_
            exact W.iret (v := x58) hx hb hr (fun t ht hW => ⟨⟨x58, (Γ, g), rfl, ⟨ext.rf, hU, (hBd), (fun c j h1 h33 h41 h42 h43 h44 h45 => by rfl), (by dsimp only; omega), (show (0 ≤ p1.toInt ∧ p1.toInt ≤ 3 ∧ 1 ≤ p2.toInt ∧ p2.toInt ≤ 4 ∧ g 1 0 < 6 → g 41 = pz_up (g 41) (g 1 0).toNat p1.toInt) ∧ (¬ (0 ≤ p1.toInt ∧ p1.toInt ≤ 3 ∧ 1 ≤ p2.toInt ∧ p2.toInt ≤ 4 ∧ g 1 0 < 6) → g 41 = g 41) from (⟨fun q => absurd q (by omega), fun _ => rfl⟩)), (show (0 ≤ p1.toInt ∧ p1.toInt ≤ 3 ∧ 1 ≤ p2.toInt ∧ p2.toInt ≤ 4 ∧ g 1 0 < 6 → g 42 = pz_up (g 42) (g 1 0).toNat p2.toInt) ∧ (¬ (0 ≤ p1.toInt ∧ p1.toInt ≤ 3 ∧ 1 ≤ p2.toInt ∧ p2.toInt ≤ 4 ∧ g 1 0 < 6) → g 42 = g 42) from (⟨fun q => absurd q (by omega), fun _ => rfl⟩)), (show (0 ≤ p1.toInt ∧ p1.toInt ≤ 3 ∧ 1 ≤ p2.toInt ∧ p2.toInt ≤ 4 ∧ g 1 0 < 6 → g 43 = fz (g 43) (53 * (g 1 0).toNat) (-1) 53) ∧ (¬ (0 ≤ p1.toInt ∧ p1.toInt ≤ 3 ∧ 1 ≤ p2.toInt ∧ p2.toInt ≤ 4 ∧ g 1 0 < 6) → g 43 = g 43) from (⟨fun q => absurd q (by omega), fun _ => rfl⟩)), (show (0 ≤ p1.toInt ∧ p1.toInt ≤ 3 ∧ 1 ≤ p2.toInt ∧ p2.toInt ≤ 4 ∧ g 1 0 < 6 → g 44 = fz (g 44) (53 * (g 1 0).toNat) (0) 53) ∧ (¬ (0 ≤ p1.toInt ∧ p1.toInt ≤ 3 ∧ 1 ≤ p2.toInt ∧ p2.toInt ≤ 4 ∧ g 1 0 < 6) → g 44 = g 44) from (⟨fun q => absurd q (by omega), fun _ => rfl⟩)), (show (0 ≤ p1.toInt ∧ p1.toInt ≤ 3 ∧ 1 ≤ p2.toInt ∧ p2.toInt ≤ 4 ∧ g 1 0 < 6 → g 45 = fz (g 45) (53 * (g 1 0).toNat) (-1) 53) ∧ (¬ (0 ≤ p1.toInt ∧ p1.toInt ≤ 3 ∧ 1 ≤ p2.toInt ∧ p2.toInt ≤ 4 ∧ g 1 0 < 6) → g 45 = g 45) from (⟨fun q => absurd q (by omega), fun _ => rfl⟩))⟩, ok2 ht hG⟩, hS.F ht⟩) hS.2.2 dX8_flat_26
      · skip
        refine ty_if_eq (tgt := 25) hx hb dX8_flat_13 (by decide) (fun c60 => ?_) (fun c60 => ?_)
        · skip
          refine ty_iconst hx hb (-1) dX8_flat_25 (by decide) (fun x61 h62 => ?_)
          refine W.widen (k := 4) (n := 165) (by omega) (by omega) ?_
          exact W.iret (v := x61) hx hb hr (fun t ht hW => ⟨⟨x61, (Γ, g), rfl, ⟨ext.rf, hU, (hBd), (fun c j h1 h33 h41 h42 h43 h44 h45 => by rfl), (by dsimp only; omega), (show (0 ≤ p1.toInt ∧ p1.toInt ≤ 3 ∧ 1 ≤ p2.toInt ∧ p2.toInt ≤ 4 ∧ g 1 0 < 6 → g 41 = pz_up (g 41) (g 1 0).toNat p1.toInt) ∧ (¬ (0 ≤ p1.toInt ∧ p1.toInt ≤ 3 ∧ 1 ≤ p2.toInt ∧ p2.toInt ≤ 4 ∧ g 1 0 < 6) → g 41 = g 41) from (⟨fun q => absurd q (by omega), fun _ => rfl⟩)), (show (0 ≤ p1.toInt ∧ p1.toInt ≤ 3 ∧ 1 ≤ p2.toInt ∧ p2.toInt ≤ 4 ∧ g 1 0 < 6 → g 42 = pz_up (g 42) (g 1 0).toNat p2.toInt) ∧ (¬ (0 ≤ p1.toInt ∧ p1.toInt ≤ 3 ∧ 1 ≤ p2.toInt ∧ p2.toInt ≤ 4 ∧ g 1 0 < 6) → g 42 = g 42) from (⟨fun q => absurd q (by omega), fun _ => rfl⟩)), (show (0 ≤ p1.toInt ∧ p1.toInt ≤ 3 ∧ 1 ≤ p2.toInt ∧ p2.toInt ≤ 4 ∧ g 1 0 < 6 → g 43 = fz (g 43) (53 * (g 1 0).toNat) (-1) 53) ∧ (¬ (0 ≤ p1.toInt ∧ p1.toInt ≤ 3 ∧ 1 ≤ p2.toInt ∧ p2.toInt ≤ 4 ∧ g 1 0 < 6) → g 43 = g 43) from (⟨fun q => absurd q (by omega), fun _ => rfl⟩)), (show (0 ≤ p1.toInt ∧ p1.toInt ≤ 3 ∧ 1 ≤ p2.toInt ∧ p2.toInt ≤ 4 ∧ g 1 0 < 6 → g 44 = fz (g 44) (53 * (g 1 0).toNat) (0) 53) ∧ (¬ (0 ≤ p1.toInt ∧ p1.toInt ≤ 3 ∧ 1 ≤ p2.toInt ∧ p2.toInt ≤ 4 ∧ g 1 0 < 6) → g 44 = g 44) from (⟨fun q => absurd q (by omega), fun _ => rfl⟩)), (show (0 ≤ p1.toInt ∧ p1.toInt ≤ 3 ∧ 1 ≤ p2.toInt ∧ p2.toInt ≤ 4 ∧ g 1 0 < 6 → g 45 = fz (g 45) (53 * (g 1 0).toNat) (-1) 53) ∧ (¬ (0 ≤ p1.toInt ∧ p1.toInt ≤ 3 ∧ 1 ≤ p2.toInt ∧ p2.toInt ≤ 4 ∧ g 1 0 < 6) → g 45 = g 45) from (⟨fun q => absurd q (by omega), fun _ => rfl⟩))⟩, ok2 ht hG⟩, hS.F ht⟩) hS.2.2 dX8_flat_26
        · exfalso; omega

set_option maxHeartbeats 4000000 in
set_option maxRecDepth 100000 in
/-- WeekBank.owner:  -/
theorem k_X8_owner (l : Launch) (dC : Nat → ClassId) (dI : Nat → Nat → Nat) (dA : Nat → ClassId) (sz : Nat) (X : va_W) (Γ : ty_G) (hU : Un Γ) (g : gh) (h0 : Nat) (t_h0 : ty Γ h0 1) (p1 : Int32) (g2 : g 2 0 = g 34 0 ∧ 0 ≤ g 2 0 ∧ g 2 0 ≤ 10) (hBd : Bd Γ g) : Met l yX8_owner (.code yX8_owner cX8_owner 3 (Option.some Jvm.ClassFile.FieldType.int) :: AL) ({ frames := 2, cells := 1, slots := 8, locals := 34 }) (PCx dC dI dA sz X Γ g [.ref h0, .int p1]) (va_Qi (fun (r : Int32) (u : (ty_G × gh)) => ext Γ u.1 ∧ Un u.1 ∧ Bd u.1 u.2 ∧ (∀ c j : Nat, c ≠ 2 → c ≠ 34 → c ≠ 50 → c ≠ 51 → c ≠ 52 → c ≠ 53 → c ≠ 54 → c ≠ 55 → c ≠ 56 → u.2 c j = g c j) ∧ ((0 ≤ p1.toInt ∧ p1.toInt ≤ 9999 ∧ g 2 0 < 10 → r.toInt = g 2 0 ∧ u.2 2 0 = g 2 0 + 1 ∧ u.2 34 0 = g 2 0 + 1) ∧ (¬ (0 ≤ p1.toInt ∧ p1.toInt ≤ 9999 ∧ g 2 0 < 10) → r.toInt = -1 ∧ u.2 2 0 = g 2 0 ∧ u.2 34 0 = g 2 0)) ∧ ((0 ≤ p1.toInt ∧ p1.toInt ≤ 9999 ∧ g 2 0 < 10 → u.2 50 = pz_up (g 50) (g 2 0).toNat p1.toInt) ∧ (¬ (0 ≤ p1.toInt ∧ p1.toInt ≤ 9999 ∧ g 2 0 < 10) → u.2 50 = g 50)) ∧ ((0 ≤ p1.toInt ∧ p1.toInt ≤ 9999 ∧ g 2 0 < 10 → u.2 51 = pz_up (g 51) (g 2 0).toNat 0) ∧ (¬ (0 ≤ p1.toInt ∧ p1.toInt ≤ 9999 ∧ g 2 0 < 10) → u.2 51 = g 51)) ∧ ((0 ≤ p1.toInt ∧ p1.toInt ≤ 9999 ∧ g 2 0 < 10 → u.2 52 = pz_up (g 52) (g 2 0).toNat 0) ∧ (¬ (0 ≤ p1.toInt ∧ p1.toInt ≤ 9999 ∧ g 2 0 < 10) → u.2 52 = g 52)) ∧ ((0 ≤ p1.toInt ∧ p1.toInt ≤ 9999 ∧ g 2 0 < 10 → u.2 53 = pz_up (g 53) (g 2 0).toNat 0) ∧ (¬ (0 ≤ p1.toInt ∧ p1.toInt ≤ 9999 ∧ g 2 0 < 10) → u.2 53 = g 53)) ∧ ((0 ≤ p1.toInt ∧ p1.toInt ≤ 9999 ∧ g 2 0 < 10 → u.2 54 = pz_up (g 54) (g 2 0).toNat 0) ∧ (¬ (0 ≤ p1.toInt ∧ p1.toInt ≤ 9999 ∧ g 2 0 < 10) → u.2 54 = g 54)) ∧ ((0 ≤ p1.toInt ∧ p1.toInt ≤ 9999 ∧ g 2 0 < 10 → u.2 55 = pz_up (g 55) (g 2 0).toNat 0) ∧ (¬ (0 ≤ p1.toInt ∧ p1.toInt ≤ 9999 ∧ g 2 0 < 10) → u.2 55 = g 55)) ∧ ((0 ≤ p1.toInt ∧ p1.toInt ≤ 9999 ∧ g 2 0 < 10 → u.2 56 = pz_up (g 56) (g 2 0).toNat (-1)) ∧ (¬ (0 ≤ p1.toInt ∧ p1.toInt ≤ 9999 ∧ g 2 0 < 10) → u.2 56 = g 56))) (okB dC dI dA sz X) (ty_A sz)) 1 8 (ty_A sz) := by
  refine Met.ofW (cc := cX8_owner) (maxL := 3) (ret := (Option.some Jvm.ClassFile.FieldType.int)) (by decide) rfl ?_
  intro p e s m args below meth c s₁ B hml hv
  obtain ⟨rfl, hG, hE⟩ := hv
  have hx := B.exec
  have hb := B.bytes
  have hr := B.returns
  have hts := atoms_spec B.pre
  have hA : ∀ w ∈ AL, w.before _ s = true := fun w h => hts w (List.mem_cons_of_mem _ h)
  have hown : s.vm.findClass RX8 = some m.cls := findClass_of_methodNamed B.named
  have hlocks := B.notSynchronized
  have hS : va_S (ty_A sz) s.heap s.heap [] := va_S.rf
  have hl := lv_entry ([.ref h0, .int p1]) (n := 3) (Nat.le_of_ble_eq_true rfl)
  rw [lg_entry_eq]
  generalize (lg_sl ([.ref h0, .int p1]) ++ List.replicate (3 - (lg_sl ([.ref h0, .int p1])).length) Slot.unset).toArray = ls at hl ⊢
  have hl : lv_has ls 3 [(0, .ref h0), (1, .int p1)] := hl
  refine lv_iload_n hx hb dX8_owner_0 rfl (lv_at hl 1 rfl) ?_
  refine ty_if_lt (tgt := 20) hx hb dX8_owner_1 (by decide) (fun c1 => ?_) (fun c1 => ?_)
  · skip
    refine ty_iconst hx hb (-1) dX8_owner_20 (by decide) (fun x2 h3 => ?_)
    refine W.widen (k := 1) (n := 8) (by omega) (by omega) ?_
    exact W.iret (v := x2) hx hb hr (fun t ht hW => ⟨⟨x2, (Γ, g), rfl, ⟨ext.rf, hU, (hBd), (fun c j h2 h34 h50 h51 h52 h53 h54 h55 h56 => by rfl), (by dsimp only; omega), (show (0 ≤ p1.toInt ∧ p1.toInt ≤ 9999 ∧ g 2 0 < 10 → g 50 = pz_up (g 50) (g 2 0).toNat p1.toInt) ∧ (¬ (0 ≤ p1.toInt ∧ p1.toInt ≤ 9999 ∧ g 2 0 < 10) → g 50 = g 50) from (⟨fun q => absurd q (by omega), fun _ => rfl⟩)), (show (0 ≤ p1.toInt ∧ p1.toInt ≤ 9999 ∧ g 2 0 < 10 → g 51 = pz_up (g 51) (g 2 0).toNat 0) ∧ (¬ (0 ≤ p1.toInt ∧ p1.toInt ≤ 9999 ∧ g 2 0 < 10) → g 51 = g 51) from (⟨fun q => absurd q (by omega), fun _ => rfl⟩)), (show (0 ≤ p1.toInt ∧ p1.toInt ≤ 9999 ∧ g 2 0 < 10 → g 52 = pz_up (g 52) (g 2 0).toNat 0) ∧ (¬ (0 ≤ p1.toInt ∧ p1.toInt ≤ 9999 ∧ g 2 0 < 10) → g 52 = g 52) from (⟨fun q => absurd q (by omega), fun _ => rfl⟩)), (show (0 ≤ p1.toInt ∧ p1.toInt ≤ 9999 ∧ g 2 0 < 10 → g 53 = pz_up (g 53) (g 2 0).toNat 0) ∧ (¬ (0 ≤ p1.toInt ∧ p1.toInt ≤ 9999 ∧ g 2 0 < 10) → g 53 = g 53) from (⟨fun q => absurd q (by omega), fun _ => rfl⟩)), (show (0 ≤ p1.toInt ∧ p1.toInt ≤ 9999 ∧ g 2 0 < 10 → g 54 = pz_up (g 54) (g 2 0).toNat 0) ∧ (¬ (0 ≤ p1.toInt ∧ p1.toInt ≤ 9999 ∧ g 2 0 < 10) → g 54 = g 54) from (⟨fun q => absurd q (by omega), fun _ => rfl⟩)), (show (0 ≤ p1.toInt ∧ p1.toInt ≤ 9999 ∧ g 2 0 < 10 → g 55 = pz_up (g 55) (g 2 0).toNat 0) ∧ (¬ (0 ≤ p1.toInt ∧ p1.toInt ≤ 9999 ∧ g 2 0 < 10) → g 55 = g 55) from (⟨fun q => absurd q (by omega), fun _ => rfl⟩)), (show (0 ≤ p1.toInt ∧ p1.toInt ≤ 9999 ∧ g 2 0 < 10 → g 56 = pz_up (g 56) (g 2 0).toNat (-1)) ∧ (¬ (0 ≤ p1.toInt ∧ p1.toInt ≤ 9999 ∧ g 2 0 < 10) → g 56 = g 56) from (⟨fun q => absurd q (by omega), fun _ => rfl⟩))⟩, ok2 ht hG⟩, hS.F ht⟩) hS.2.2 dX8_owner_21
  · skip
    refine lv_iload_n hx hb dX8_owner_4 rfl (lv_at hl 1 rfl) ?_
    refine ty_sipush hx hb (9999) dX8_owner_5 (by decide) (fun x4 h5 => ?_)
    refine ty_icmp_gt (tgt := 20) hx hb dX8_owner_8 (by decide) (fun c6 => ?_) (fun c6 => ?_)
    · skip
      refine ty_iconst hx hb (-1) dX8_owner_20 (by decide) (fun x7 h8 => ?_)
      refine W.widen (k := 1) (n := 8) (by omega) (by omega) ?_
      exact W.iret (v := x7) hx hb hr (fun t ht hW => ⟨⟨x7, (Γ, g), rfl, ⟨ext.rf, hU, (hBd), (fun c j h2 h34 h50 h51 h52 h53 h54 h55 h56 => by rfl), (by dsimp only; omega), (show (0 ≤ p1.toInt ∧ p1.toInt ≤ 9999 ∧ g 2 0 < 10 → g 50 = pz_up (g 50) (g 2 0).toNat p1.toInt) ∧ (¬ (0 ≤ p1.toInt ∧ p1.toInt ≤ 9999 ∧ g 2 0 < 10) → g 50 = g 50) from (⟨fun q => absurd q (by omega), fun _ => rfl⟩)), (show (0 ≤ p1.toInt ∧ p1.toInt ≤ 9999 ∧ g 2 0 < 10 → g 51 = pz_up (g 51) (g 2 0).toNat 0) ∧ (¬ (0 ≤ p1.toInt ∧ p1.toInt ≤ 9999 ∧ g 2 0 < 10) → g 51 = g 51) from (⟨fun q => absurd q (by omega), fun _ => rfl⟩)), (show (0 ≤ p1.toInt ∧ p1.toInt ≤ 9999 ∧ g 2 0 < 10 → g 52 = pz_up (g 52) (g 2 0).toNat 0) ∧ (¬ (0 ≤ p1.toInt ∧ p1.toInt ≤ 9999 ∧ g 2 0 < 10) → g 52 = g 52) from (⟨fun q => absurd q (by omega), fun _ => rfl⟩)), (show (0 ≤ p1.toInt ∧ p1.toInt ≤ 9999 ∧ g 2 0 < 10 → g 53 = pz_up (g 53) (g 2 0).toNat 0) ∧ (¬ (0 ≤ p1.toInt ∧ p1.toInt ≤ 9999 ∧ g 2 0 < 10) → g 53 = g 53) from (⟨fun q => absurd q (by omega), fun _ => rfl⟩)), (show (0 ≤ p1.toInt ∧ p1.toInt ≤ 9999 ∧ g 2 0 < 10 → g 54 = pz_up (g 54) (g 2 0).toNat 0) ∧ (¬ (0 ≤ p1.toInt ∧ p1.toInt ≤ 9999 ∧ g 2 0 < 10) → g 54 = g 54) from (⟨fun q => absurd q (by omega), fun _ => rfl⟩)), (show (0 ≤ p1.toInt ∧ p1.toInt ≤ 9999 ∧ g 2 0 < 10 → g 55 = pz_up (g 55) (g 2 0).toNat 0) ∧ (¬ (0 ≤ p1.toInt ∧ p1.toInt ≤ 9999 ∧ g 2 0 < 10) → g 55 = g 55) from (⟨fun q => absurd q (by omega), fun _ => rfl⟩)), (show (0 ≤ p1.toInt ∧ p1.toInt ≤ 9999 ∧ g 2 0 < 10 → g 56 = pz_up (g 56) (g 2 0).toNat (-1)) ∧ (¬ (0 ≤ p1.toInt ∧ p1.toInt ≤ 9999 ∧ g 2 0 < 10) → g 56 = g 56) from (⟨fun q => absurd q (by omega), fun _ => rfl⟩))⟩, ok2 ht hG⟩, hS.F ht⟩) hS.2.2 dX8_owner_21
    · skip
      refine lv_aload_n hx hb dX8_owner_11 rfl (lv_at hl 0 rfl) ?_
      refine get_X8_3 hx hb hA hown hE hG t_h0 wd_1_160 dX8_owner_12 (fun x9 h10 => ?_)
      refine ty_bipush hx hb (10) dX8_owner_15 (by decide) (fun x12 h13 => ?_)
      refine ty_icmp_lt (tgt := 22) hx hb dX8_owner_17 (by decide) (fun c14 => ?_) (fun c14 => ?_)
      · skip
        refine lv_aload_n hx hb dX8_owner_22 rfl (lv_at hl 0 rfl) ?_
        refine get_X8_3 hx hb hA hown hE hG t_h0 wd_1_160 dX8_owner_23 (fun x15 h16 => ?_)
        refine lv_istore_n (lv' := [(2, .int x15), (0, .ref h0), (1, .int p1)]) hx hb dX8_owner_26 rfl hl (by decide) rfl (fun ls hl => ?_)
        refine lv_aload_n hx hb dX8_owner_27 rfl (lv_at hl 1 rfl) ?_
        refine get_X8_2 hx hb hA hown hE hG t_h0 wd_1_159 dX8_owner_28 (fun b18 (t_b18 : ty Γ b18 11) => ?_)
        refine lv_iload_n hx hb dX8_owner_31 rfl (lv_at hl 0 rfl) ?_
        refine new_X3 hx hb hA hE hG hS hown wd_1_32 wd_2_1 wd_1_9 (Nat.le_of_ble_eq_true rfl) (Nat.le_of_ble_eq_true rfl) dX8_owner_32 (fun q19 H z_q19 s_q19 e_q19 hG hS => ?_)
        clear z_q19 s_q19 e_q19
        refine lv_dup hx hb dX8_owner_35 rfl ?_
        refine lv_iload_n hx hb dX8_owner_36 rfl (lv_at hl 0 rfl) ?_
        refine lv_iload_n hx hb dX8_owner_37 rfl (lv_at hl 2 rfl) ?_
        refine cVB (va_runI (As := [.int x15, .int p1]) (rest := [.ref q19, .int x15, .ref b18]) ⟨hx, hb, hml, hown, hA⟩ (k_X3_init l dC dI dA sz X Γ hU g q19 x15 p1 x15.toInt.toNat  (by omega) (Bd.fr3 hBd (by omega))) ⟨callB_of 2 hA (al_A wd_2_4) rfl rfl rfl (hA _ wd_1_9) (hA _ wd_2_2) (by decide +kernel) ⟨Nat.le_of_ble_eq_true rfl, Nat.le_of_ble_eq_true rfl⟩, rfl, hA _ wd_2_3⟩ ⟨bl, fun U hU9 hW9 => ⟨rfl, by rw [hU9]; exact hG, hE.go hS hU9 hW9⟩⟩ rfl rfl hl.1 rfl (lv_room (Nat.le_of_ble_eq_true rfl)) dX8_owner_38 ⟨Nat.le_of_ble_eq_true rfl, Nat.le_of_ble_eq_true rfl⟩) hS (fun u20 H locs w21 hG hS => ?_)
        obtain ⟨Γ22, g23⟩ := u20
        dsimp only at w21 hG
        obtain ⟨hx24, hU, hN29, t_q19, hf26, hq30, hq31, hq32, hq33, hq34, hq35, hq36⟩ := w21
        have hX37 : ext Γ Γ22 := ext.trans ext.rf hx24
        replace t_h0 : ty Γ22 h0 1 := hx24.one t_h0 (by decide)
        replace t_b18 : ty Γ22 b18 11 := hx24.one t_b18 (by decide)
        have hk38 : g23 34 0 = g 34 0 := hf26 34 0 (by decide) (by decide) (by decide) (by decide) (by decide) (by decide) (by decide)
        refine ast_11 hx hb hE hG hS hU t_b18 (t_q19.trans (by rw [show x15.toInt.toNat = x15.toInt.toNat by omega])) (by omega) (by omega) dX8_owner_41 (fun H locs hG hS => ?_)
        refine lv_aload_n hx hb dX8_owner_42 rfl (lv_at hl 1 rfl) ?_
        refine lv_dup hx hb dX8_owner_43 rfl ?_
        refine get_X8_3 hx hb hA hown hE hG t_h0 wd_1_160 dX8_owner_44 (fun x39 h40 => ?_)
        replace h40 : x39.toInt = g23 2 0 := by rw [h40, gs_c _ _ _ _ (by decide)]
        have hk42 : g23 2 0 = g 2 0 := hf26 2 0 (by decide) (by decide) (by decide) (by decide) (by decide) (by decide) (by decide)
        refine ty_iconst hx hb (1) dX8_owner_47 (by decide) (fun x43 h44 => ?_)
        refine ty_iadd hx hb dX8_owner_48 (fun x45 h46 => ?_)
        try have h47 : x45.toInt = x39.toInt + x43.toInt := ty_add h46 (by omega) (by omega)
        refine put_X8_3 hx hb hA hown hE hG hS hU t_h0 wd_1_160 dX8_owner_49 (fun H locs hG hS => ?_)
        refine lv_iload_n hx hb dX8_owner_52 rfl (lv_at hl 0 rfl) ?_
        have hk48 : g23 33 0 = g 33 0 := hf26 33 0 (by decide) (by decide) (by decide) (by decide) (by decide) (by decide) (by decide)
        have e49 : (gs (gs g23 34 0 (x15.toInt + 1)) 2 0 x45.toInt) 33 0 = g23 33 0 := by rw [gs_c _ _ _ _ (by decide), gs_c _ _ _ _ (by decide)]
        have e50 : (gs (gs g23 34 0 (x15.toInt + 1)) 2 0 x45.toInt) 34 0 = (x15.toInt + 1) := by rw [gs_c _ _ _ _ (by decide), gs_self]
        have hk51 : g23 35 0 = g 35 0 := hf26 35 0 (by decide) (by decide) (by decide) (by decide) (by decide) (by decide) (by decide)
        have e52 : (gs (gs g23 34 0 (x15.toInt + 1)) 2 0 x45.toInt) 35 0 = g23 35 0 := by rw [gs_c _ _ _ _ (by decide), gs_c _ _ _ _ (by decide)]
        have e53 : (gs (gs g23 34 0 (x15.toInt + 1)) 2 0 x45.toInt) 2 0 = x45.toInt := by rw [gs_self]
        have e54 : (gs (gs g23 34 0 (x15.toInt + 1)) 2 0 x45.toInt) 34 0 = (x15.toInt + 1) := by rw [gs_c _ _ _ _ (by decide), gs_self]
        refine W.widen (k := 1) (n := 8) (by omega) (by omega) ?_
        exact W.iret (v := x15) hx hb hr (fun t ht hW => ⟨⟨x15, (Γ22, (gs (gs g23 34 0 (x15.toInt + 1)) 2 0 x45.toInt)), rfl, ⟨hX37, hU, (Bd.grow hBd hN29 (by dsimp only; omega) (by dsimp only; omega) (by dsimp only; omega) (by dsimp only; exact fun h => absurd h (by decide)) (by dsimp only; exact fun _ => by omega) (by dsimp only; exact fun h => absurd h (by decide))), (fun c j h2 h34 h50 h51 h52 h53 h54 h55 h56 => by (try dsimp only); rw [gs_c _ _ _ _ h2, gs_c _ _ _ _ h34, hf26 c j h50 h51 h52 h53 h54 h55 h56]), (by dsimp only; omega), (show (0 ≤ p1.toInt ∧ p1.toInt ≤ 9999 ∧ g 2 0 < 10 → (gs (gs g23 34 0 (x15.toInt + 1)) 2 0 x45.toInt) 50 = pz_up (g 50) (g 2 0).toNat p1.toInt) ∧ (¬ (0 ≤ p1.toInt ∧ p1.toInt ≤ 9999 ∧ g 2 0 < 10) → (gs (gs g23 34 0 (x15.toInt + 1)) 2 0 x45.toInt) 50 = g 50) from (⟨fun q => by rw [gs_r _ _ _ (by decide), gs_r _ _ _ (by decide), hq30]; rw [show x15.toInt.toNat = (g 2 0).toNat by omega], fun q => absurd (by omega) q⟩)), (show (0 ≤ p1.toInt ∧ p1.toInt ≤ 9999 ∧ g 2 0 < 10 → (gs (gs g23 34 0 (x15.toInt + 1)) 2 0 x45.toInt) 51 = pz_up (g 51) (g 2 0).toNat 0) ∧ (¬ (0 ≤ p1.toInt ∧ p1.toInt ≤ 9999 ∧ g 2 0 < 10) → (gs (gs g23 34 0 (x15.toInt + 1)) 2 0 x45.toInt) 51 = g 51) from (⟨fun q => by rw [gs_r _ _ _ (by decide), gs_r _ _ _ (by decide), hq31]; rw [show x15.toInt.toNat = (g 2 0).toNat by omega], fun q => absurd (by omega) q⟩)), (show (0 ≤ p1.toInt ∧ p1.toInt ≤ 9999 ∧ g 2 0 < 10 → (gs (gs g23 34 0 (x15.toInt + 1)) 2 0 x45.toInt) 52 = pz_up (g 52) (g 2 0).toNat 0) ∧ (¬ (0 ≤ p1.toInt ∧ p1.toInt ≤ 9999 ∧ g 2 0 < 10) → (gs (gs g23 34 0 (x15.toInt + 1)) 2 0 x45.toInt) 52 = g 52) from (⟨fun q => by rw [gs_r _ _ _ (by decide), gs_r _ _ _ (by decide), hq32]; rw [show x15.toInt.toNat = (g 2 0).toNat by omega], fun q => absurd (by omega) q⟩)), (show (0 ≤ p1.toInt ∧ p1.toInt ≤ 9999 ∧ g 2 0 < 10 → (gs (gs g23 34 0 (x15.toInt + 1)) 2 0 x45.toInt) 53 = pz_up (g 53) (g 2 0).toNat 0) ∧ (¬ (0 ≤ p1.toInt ∧ p1.toInt ≤ 9999 ∧ g 2 0 < 10) → (gs (gs g23 34 0 (x15.toInt + 1)) 2 0 x45.toInt) 53 = g 53) from (⟨fun q => by rw [gs_r _ _ _ (by decide), gs_r _ _ _ (by decide), hq33]; rw [show x15.toInt.toNat = (g 2 0).toNat by omega], fun q => absurd (by omega) q⟩)), (show (0 ≤ p1.toInt ∧ p1.toInt ≤ 9999 ∧ g 2 0 < 10 → (gs (gs g23 34 0 (x15.toInt + 1)) 2 0 x45.toInt) 54 = pz_up (g 54) (g 2 0).toNat 0) ∧ (¬ (0 ≤ p1.toInt ∧ p1.toInt ≤ 9999 ∧ g 2 0 < 10) → (gs (gs g23 34 0 (x15.toInt + 1)) 2 0 x45.toInt) 54 = g 54) from (⟨fun q => by rw [gs_r _ _ _ (by decide), gs_r _ _ _ (by decide), hq34]; rw [show x15.toInt.toNat = (g 2 0).toNat by omega], fun q => absurd (by omega) q⟩)), (show (0 ≤ p1.toInt ∧ p1.toInt ≤ 9999 ∧ g 2 0 < 10 → (gs (gs g23 34 0 (x15.toInt + 1)) 2 0 x45.toInt) 55 = pz_up (g 55) (g 2 0).toNat 0) ∧ (¬ (0 ≤ p1.toInt ∧ p1.toInt ≤ 9999 ∧ g 2 0 < 10) → (gs (gs g23 34 0 (x15.toInt + 1)) 2 0 x45.toInt) 55 = g 55) from (⟨fun q => by rw [gs_r _ _ _ (by decide), gs_r _ _ _ (by decide), hq35]; rw [show x15.toInt.toNat = (g 2 0).toNat by omega], fun q => absurd (by omega) q⟩)), (show (0 ≤ p1.toInt ∧ p1.toInt ≤ 9999 ∧ g 2 0 < 10 → (gs (gs g23 34 0 (x15.toInt + 1)) 2 0 x45.toInt) 56 = pz_up (g 56) (g 2 0).toNat (-1)) ∧ (¬ (0 ≤ p1.toInt ∧ p1.toInt ≤ 9999 ∧ g 2 0 < 10) → (gs (gs g23 34 0 (x15.toInt + 1)) 2 0 x45.toInt) 56 = g 56) from (⟨fun q => by rw [gs_r _ _ _ (by decide), gs_r _ _ _ (by decide), hq36]; rw [show x15.toInt.toNat = (g 2 0).toNat by omega], fun q => absurd (by omega) q⟩))⟩, ok2 ht hG⟩, hS.F ht⟩) hS.2.2 dX8_owner_53
      · skip
        refine ty_iconst hx hb (-1) dX8_owner_20 (by decide) (fun x55 h56 => ?_)
        refine W.widen (k := 1) (n := 8) (by omega) (by omega) ?_
        exact W.iret (v := x55) hx hb hr (fun t ht hW => ⟨⟨x55, (Γ, g), rfl, ⟨ext.rf, hU, (hBd), (fun c j h2 h34 h50 h51 h52 h53 h54 h55 h56 => by rfl), (by dsimp only; omega), (show (0 ≤ p1.toInt ∧ p1.toInt ≤ 9999 ∧ g 2 0 < 10 → g 50 = pz_up (g 50) (g 2 0).toNat p1.toInt) ∧ (¬ (0 ≤ p1.toInt ∧ p1.toInt ≤ 9999 ∧ g 2 0 < 10) → g 50 = g 50) from (⟨fun q => absurd q (by omega), fun _ => rfl⟩)), (show (0 ≤ p1.toInt ∧ p1.toInt ≤ 9999 ∧ g 2 0 < 10 → g 51 = pz_up (g 51) (g 2 0).toNat 0) ∧ (¬ (0 ≤ p1.toInt ∧ p1.toInt ≤ 9999 ∧ g 2 0 < 10) → g 51 = g 51) from (⟨fun q => absurd q (by omega), fun _ => rfl⟩)), (show (0 ≤ p1.toInt ∧ p1.toInt ≤ 9999 ∧ g 2 0 < 10 → g 52 = pz_up (g 52) (g 2 0).toNat 0) ∧ (¬ (0 ≤ p1.toInt ∧ p1.toInt ≤ 9999 ∧ g 2 0 < 10) → g 52 = g 52) from (⟨fun q => absurd q (by omega), fun _ => rfl⟩)), (show (0 ≤ p1.toInt ∧ p1.toInt ≤ 9999 ∧ g 2 0 < 10 → g 53 = pz_up (g 53) (g 2 0).toNat 0) ∧ (¬ (0 ≤ p1.toInt ∧ p1.toInt ≤ 9999 ∧ g 2 0 < 10) → g 53 = g 53) from (⟨fun q => absurd q (by omega), fun _ => rfl⟩)), (show (0 ≤ p1.toInt ∧ p1.toInt ≤ 9999 ∧ g 2 0 < 10 → g 54 = pz_up (g 54) (g 2 0).toNat 0) ∧ (¬ (0 ≤ p1.toInt ∧ p1.toInt ≤ 9999 ∧ g 2 0 < 10) → g 54 = g 54) from (⟨fun q => absurd q (by omega), fun _ => rfl⟩)), (show (0 ≤ p1.toInt ∧ p1.toInt ≤ 9999 ∧ g 2 0 < 10 → g 55 = pz_up (g 55) (g 2 0).toNat 0) ∧ (¬ (0 ≤ p1.toInt ∧ p1.toInt ≤ 9999 ∧ g 2 0 < 10) → g 55 = g 55) from (⟨fun q => absurd q (by omega), fun _ => rfl⟩)), (show (0 ≤ p1.toInt ∧ p1.toInt ≤ 9999 ∧ g 2 0 < 10 → g 56 = pz_up (g 56) (g 2 0).toNat (-1)) ∧ (¬ (0 ≤ p1.toInt ∧ p1.toInt ≤ 9999 ∧ g 2 0 < 10) → g 56 = g 56) from (⟨fun q => absurd q (by omega), fun _ => rfl⟩))⟩, ok2 ht hG⟩, hS.F ht⟩) hS.2.2 dX8_owner_21
