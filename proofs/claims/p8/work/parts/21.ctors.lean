set_option maxHeartbeats 4000000 in
set_option maxRecDepth 100000 in
/-- WeekBank$Flat.<init>:  -/
theorem k_X1_init (l : Launch) (dC : Nat → ClassId) (dI : Nat → Nat → Nat) (dA : Nat → ClassId) (sz : Nat) (X : va_W) (Γ : ty_G) (hU : Un Γ) (g : gh) (h0 : Nat) (p1 : Int32) (p2 : Int32) (p3 : Int32) : Met l yX1_init (.code yX1_init cX1_init 4 (Option.none : Option Jvm.ClassFile.FieldType) :: AL) ({ frames := 1, cells := 3, slots := 159, locals := 12 }) (PCx dC dI dA sz ((h0, .inr (1, dv_X1)) :: X) Γ g [.ref h0, .int p1, .int p2, .int p3]) (va_Qv (fun (u : (ty_G × gh)) => ext Γ u.1 ∧ Un u.1 ∧ (u.1 h0).1 = 2 ∧ u.2 = g) (okB dC dI dA sz X) (ty_A sz)) 3 159 (ty_A sz) := by
  refine Met.ofW (cc := cX1_init) (maxL := 4) (ret := (Option.none : Option Jvm.ClassFile.FieldType)) (by decide) rfl ?_
  intro p e s m args below meth c s₁ B hml hv
  obtain ⟨rfl, hG, hE⟩ := hv
  have hx := B.exec
  have hb := B.bytes
  have hr := B.returns
  have hts := atoms_spec B.pre
  have hA : ∀ w ∈ AL, w.before _ s = true := fun w h => hts w (List.mem_cons_of_mem _ h)
  have hown : s.vm.findClass RX1 = some m.cls := findClass_of_methodNamed B.named
  have hlocks := B.notSynchronized
  have hin : meth.name = "<init>" := (name_of_methodNamed B.named B.method).1
  have hS : va_S (ty_A sz) s.heap s.heap [] := va_S.rf
  have hl := lv_entry ([.ref h0, .int p1, .int p2, .int p3]) (n := 4) (Nat.le_of_ble_eq_true rfl)
  rw [lg_entry_eq]
  generalize (lg_sl ([.ref h0, .int p1, .int p2, .int p3]) ++ List.replicate (4 - (lg_sl ([.ref h0, .int p1, .int p2, .int p3])).length) Slot.unset).toArray = ls at hl ⊢
  have hl : lv_has ls 4 [(0, .ref h0), (1, .int p1), (2, .int p2), (3, .int p3)] := hl
  refine lv_aload_n hx hb dX1_init_0 rfl (lv_at hl 0 rfl) ?_
  refine W.objInit hx hb hown (hA _ wd_1_208) (hA _ wd_1_28) (hA _ wd_1_29) rfl (by rw [hml]; exact hl.1) rfl dX1_init_1 (Nat.le_of_ble_eq_true rfl) (Nat.le_of_ble_eq_true rfl) ?_
  refine W.eq (g2 := F0 m 4 ls []) rfl ?_
  refine lv_aload_n hx hb dX1_init_4 rfl (lv_at hl 0 rfl) ?_
  refine ty_bipush hx hb (53) dX1_init_5 (by decide) (fun x1 h2 => ?_)
  refine new_R5 hx hb hA hE hG hS hown wd_1_209 (N := 53) (by omega) (by decide) (Nat.le_of_ble_eq_true rfl) (Nat.le_of_ble_eq_true rfl) (13, 0) (fun Γ' => by rw [TP_13 rfl]; exact ⟨_, rfl, fun j hj => ⟨fun b h => (by cases h), fun h => absurd h (by omega)⟩⟩) dX1_init_7 (fun q3 H (z_q3 : ty Γ q3 0) s_q3 e_q3 hG hS => ?_)
  obtain ⟨Γ4, eΓ4⟩ : ∃ z, z = va_up Γ q3 (13, 0) := ⟨_, rfl⟩
  rw [← eΓ4] at hG
  have hx5 : ext Γ Γ4 := by rw [eΓ4]; exact ext.up z_q3
  have hU : Un Γ4 := by rw [eΓ4]; exact Un.up0 hU rfl rfl
  have hX6 : ext Γ Γ4 := ext.trans ext.rf hx5
  have t_q3 : ty Γ4 q3 13 := by rw [eΓ4]; unfold ty; rw [va_up_self]
  clear z_q3 s_q3 e_q3
  refine rw_X1 hx hb hA hE hG hS hown hin rfl 3 (by decide) wd_1_218 rfl (ty := .array (.object "WeekBank$Owner")) (tyX1_ok 3 (by decide)) rfl rfl (Nat.le_of_ble_eq_true rfl) dX1_init_10 (fun H locs hG hS => ?_)
  replace hG : ty_ok (dC, dI) vwCl Γ4 (TP dA Γ4 g) sz ((h0, .inr (1, [.int 0, .int 0, .int 0, .ref q3, .null, .null])) :: X) H := hG
  refine lv_aload_n hx hb dX1_init_13 rfl (lv_at hl 0 rfl) ?_
  refine ty_bipush hx hb (53) dX1_init_14 (by decide) (fun x7 h8 => ?_)
  refine new_Z hx hb hA hE hG hS wd_1_156 (N := 53) (by omega) (by decide) (Nat.le_of_ble_eq_true rfl) (Nat.le_of_ble_eq_true rfl) (14, 0) (fun Γ' => by rw [TP_14 rfl]; exact ⟨_, rfl, fun j hj => Or.inl rfl⟩) dX1_init_16 (fun q9 H z_q9 s_q9 e_q9 hG hS => ?_)
  obtain ⟨Γ10, eΓ10⟩ : ∃ z, z = va_up Γ4 q9 (14, 0) := ⟨_, rfl⟩
  rw [← eΓ10] at hG
  have hx11 : ext Γ4 Γ10 := by rw [eΓ10]; exact ext.up z_q9
  have hU : Un Γ10 := by rw [eΓ10]; exact Un.up0 hU rfl rfl
  have hX12 : ext Γ Γ10 := ext.trans hX6 hx11
  replace t_q3 : ty Γ10 q3 13 := hx11.one t_q3 (by decide)
  have t_q9 : ty Γ10 q9 14 := by rw [eΓ10]; unfold ty; rw [va_up_self]
  clear z_q9 s_q9 e_q9
  refine rw_X1 hx hb hA hE hG hS hown hin rfl 4 (by decide) wd_1_220 rfl (ty := .array .boolean) (tyX1_ok 4 (by decide)) rfl rfl (Nat.le_of_ble_eq_true rfl) dX1_init_18 (fun H locs hG hS => ?_)
  replace hG : ty_ok (dC, dI) vwCl Γ10 (TP dA Γ10 g) sz ((h0, .inr (1, [.int 0, .int 0, .int 0, .ref q3, .ref q9, .null])) :: X) H := hG
  refine lv_aload_n hx hb dX1_init_21 rfl (lv_at hl 0 rfl) ?_
  refine ty_bipush hx hb (53) dX1_init_22 (by decide) (fun x13 h14 => ?_)
  refine new_R6 hx hb hA hE hG hS hown wd_1_210 (N := 53) (by omega) (by decide) (Nat.le_of_ble_eq_true rfl) (Nat.le_of_ble_eq_true rfl) (15, 0) (fun Γ' => by rw [TP_15 rfl]; exact ⟨_, rfl, fun j hj => ⟨fun b h => (by cases h), fun h => absurd h (by omega)⟩⟩) dX1_init_24 (fun q15 H (z_q15 : ty Γ10 q15 0) s_q15 e_q15 hG hS => ?_)
  obtain ⟨Γ16, eΓ16⟩ : ∃ z, z = va_up Γ10 q15 (15, 0) := ⟨_, rfl⟩
  rw [← eΓ16] at hG
  have hx17 : ext Γ10 Γ16 := by rw [eΓ16]; exact ext.up z_q15
  have hU : Un Γ16 := by rw [eΓ16]; exact Un.up0 hU rfl rfl
  have hX18 : ext Γ Γ16 := ext.trans hX12 hx17
  replace t_q3 : ty Γ16 q3 13 := hx17.one t_q3 (by decide)
  replace t_q9 : ty Γ16 q9 14 := hx17.one t_q9 (by decide)
  have t_q15 : ty Γ16 q15 15 := by rw [eΓ16]; unfold ty; rw [va_up_self]
  clear z_q15 s_q15 e_q15
  refine rw_X1 hx hb hA hE hG hS hown hin rfl 5 (by decide) wd_1_222 rfl (ty := .array (.object "WeekBank$Gift")) (tyX1_ok 5 (by decide)) rfl rfl (Nat.le_of_ble_eq_true rfl) dX1_init_27 (fun H locs hG hS => ?_)
  replace hG : ty_ok (dC, dI) vwCl Γ16 (TP dA Γ16 g) sz ((h0, .inr (1, [.int 0, .int 0, .int 0, .ref q3, .ref q9, .ref q15])) :: X) H := hG
  refine lv_aload_n hx hb dX1_init_30 rfl (lv_at hl 0 rfl) ?_
  refine lv_iload_n hx hb dX1_init_31 rfl (lv_at hl 1 rfl) ?_
  refine rw_X1 hx hb hA hE hG hS hown hin rfl 0 (by decide) wd_1_211 rfl (ty := .int) (tyX1_ok 0 (by decide)) rfl rfl (Nat.le_of_ble_eq_true rfl) dX1_init_32 (fun H locs hG hS => ?_)
  replace hG : ty_ok (dC, dI) vwCl Γ16 (TP dA Γ16 g) sz ((h0, .inr (1, [.int p1, .int 0, .int 0, .ref q3, .ref q9, .ref q15])) :: X) H := hG
  refine lv_aload_n hx hb dX1_init_35 rfl (lv_at hl 0 rfl) ?_
  refine lv_iload_n hx hb dX1_init_36 rfl (lv_at hl 2 rfl) ?_
  refine rw_X1 hx hb hA hE hG hS hown hin rfl 1 (by decide) wd_1_213 rfl (ty := .int) (tyX1_ok 1 (by decide)) rfl rfl (Nat.le_of_ble_eq_true rfl) dX1_init_37 (fun H locs hG hS => ?_)
  replace hG : ty_ok (dC, dI) vwCl Γ16 (TP dA Γ16 g) sz ((h0, .inr (1, [.int p1, .int p2, .int 0, .ref q3, .ref q9, .ref q15])) :: X) H := hG
  refine lv_aload_n hx hb dX1_init_40 rfl (lv_at hl 0 rfl) ?_
  refine lv_iload_n hx hb dX1_init_41 rfl (lv_at hl 3 rfl) ?_
  refine rw_X1 hx hb hA hE hG hS hown hin rfl 2 (by decide) wd_1_215 rfl (ty := .int) (tyX1_ok 2 (by decide)) rfl rfl (Nat.le_of_ble_eq_true rfl) dX1_init_42 (fun H locs hG hS => ?_)
  replace hG : ty_ok (dC, dI) vwCl Γ16 (TP dA Γ16 g) sz ((h0, .inr (1, [.int p1, .int p2, .int p3, .ref q3, .ref q9, .ref q15])) :: X) H := hG
  have z_own : ty Γ16 h0 0 := (hG.2.2.2 _ List.mem_cons_self).2.1
  have hx19 : ext Γ16 (va_up Γ16 h0 (2, 0)) := ext.up z_own
  have hG := tp_adopt (t := (2, 0)) hG (by rw [TP_2 rfl]; exact ⟨_, rfl, rfl, fun k hk => match k, hk with
        | 0, _ => ⟨_, rfl⟩
        | 1, _ => ⟨_, rfl⟩
        | 2, _ => ⟨_, rfl⟩
        | 3, _ => ⟨_, rfl, hx19.one t_q3 (by decide)⟩
        | 4, _ => ⟨_, rfl, hx19.one t_q9 (by decide)⟩
        | 5, _ => ⟨_, rfl, hx19.one t_q15 (by decide)⟩
      ⟩)
  obtain ⟨Γ20, eΓ20⟩ : ∃ z, z = va_up Γ16 h0 (2, 0) := ⟨_, rfl⟩
  rw [← eΓ20] at hG
  have hx21 : ext Γ16 Γ20 := by rw [eΓ20]; exact ext.up z_own
  have hU : Un Γ20 := by rw [eΓ20]; exact Un.up0 hU rfl rfl
  have hX22 : ext Γ Γ20 := ext.trans hX18 hx21
  replace t_q3 : ty Γ20 q3 13 := hx21.one t_q3 (by decide)
  replace t_q9 : ty Γ20 q9 14 := hx21.one t_q9 (by decide)
  replace t_q15 : ty Γ20 q15 15 := hx21.one t_q15 (by decide)
  have t_h0 : ty Γ20 h0 2 := by rw [eΓ20]; unfold ty; rw [va_up_self]
  clear z_own
  refine W.widen (k := 3) (n := 159) (by omega) (by omega) ?_
  exact W.vret hx hb hr (fun t ht hW => ⟨⟨(Γ20, g), rfl, ⟨hX22, hU, t_h0, rfl⟩, ok2 ht hG⟩, hS.F ht⟩) hS.2.2 dX1_init_45

set_option maxHeartbeats 4000000 in
set_option maxRecDepth 100000 in
/-- WeekBank$Owner.<init>:  -/
theorem k_X3_init (l : Launch) (dC : Nat → ClassId) (dI : Nat → Nat → Nat) (dA : Nat → ClassId) (sz : Nat) (X : va_W) (Γ : ty_G) (hU : Un Γ) (g : gh) (h0 : Nat) (p1 : Int32) (p2 : Int32) : Met l yX3_init (.code yX3_init cX3_init 3 (Option.none : Option Jvm.ClassFile.FieldType) :: AL) ({ frames := 1, cells := 0, slots := 0, locals := 12 }) (PCx dC dI dA sz ((h0, .inr (3, dv_X3)) :: X) Γ g [.ref h0, .int p1, .int p2]) (va_Qv (fun (u : (ty_G × gh)) => ext Γ u.1 ∧ Un u.1 ∧ (u.1 h0).1 = 3 ∧ u.2 = g) (okB dC dI dA sz X) (ty_A sz)) 0 0 (ty_A sz) := by
  refine Met.ofW (cc := cX3_init) (maxL := 3) (ret := (Option.none : Option Jvm.ClassFile.FieldType)) (by decide) rfl ?_
  intro p e s m args below meth c s₁ B hml hv
  obtain ⟨rfl, hG, hE⟩ := hv
  have hx := B.exec
  have hb := B.bytes
  have hr := B.returns
  have hts := atoms_spec B.pre
  have hA : ∀ w ∈ AL, w.before _ s = true := fun w h => hts w (List.mem_cons_of_mem _ h)
  have hown : s.vm.findClass RX3 = some m.cls := findClass_of_methodNamed B.named
  have hlocks := B.notSynchronized
  have hin : meth.name = "<init>" := (name_of_methodNamed B.named B.method).1
  have hS : va_S (ty_A sz) s.heap s.heap [] := va_S.rf
  have hl := lv_entry ([.ref h0, .int p1, .int p2]) (n := 3) (Nat.le_of_ble_eq_true rfl)
  rw [lg_entry_eq]
  generalize (lg_sl ([.ref h0, .int p1, .int p2]) ++ List.replicate (3 - (lg_sl ([.ref h0, .int p1, .int p2])).length) Slot.unset).toArray = ls at hl ⊢
  have hl : lv_has ls 3 [(0, .ref h0), (1, .int p1), (2, .int p2)] := hl
  refine lv_aload_n hx hb dX3_init_0 rfl (lv_at hl 0 rfl) ?_
  refine W.objInit hx hb hown (hA _ wd_2_5) (hA _ wd_1_28) (hA _ wd_1_29) rfl (by rw [hml]; exact hl.1) rfl dX3_init_1 (Nat.le_of_ble_eq_true rfl) (Nat.le_of_ble_eq_true rfl) ?_
  refine W.eq (g2 := F0 m 4 ls []) rfl ?_
  refine lv_aload_n hx hb dX3_init_4 rfl (lv_at hl 0 rfl) ?_
  refine ty_iconst hx hb (0) dX3_init_5 (by decide) (fun x1 h2 => ?_)
  refine rw_X3 hx hb hA hE hG hS hown hin rfl 2 (by decide) wd_2_10 rfl (ty := .int) (tyX3_ok 2 (by decide)) rfl rfl (Nat.le_of_ble_eq_true rfl) dX3_init_6 (fun H locs hG hS => ?_)
  replace hG : ty_ok (dC, dI) vwCl Γ (TP dA Γ g) sz ((h0, .inr (3, [.int 0, .int 0, .int x1, .int 0, .int 0, .int 0, .int 0, .null])) :: X) H := hG
  refine lv_aload_n hx hb dX3_init_9 rfl (lv_at hl 0 rfl) ?_
  refine ty_iconst hx hb (0) dX3_init_10 (by decide) (fun x3 h4 => ?_)
  refine rw_X3 hx hb hA hE hG hS hown hin rfl 3 (by decide) wd_2_13 rfl (ty := .int) (tyX3_ok 3 (by decide)) rfl rfl (Nat.le_of_ble_eq_true rfl) dX3_init_11 (fun H locs hG hS => ?_)
  replace hG : ty_ok (dC, dI) vwCl Γ (TP dA Γ g) sz ((h0, .inr (3, [.int 0, .int 0, .int x1, .int x3, .int 0, .int 0, .int 0, .null])) :: X) H := hG
  refine lv_aload_n hx hb dX3_init_14 rfl (lv_at hl 0 rfl) ?_
  refine ty_iconst hx hb (0) dX3_init_15 (by decide) (fun x5 h6 => ?_)
  refine rw_X3 hx hb hA hE hG hS hown hin rfl 4 (by decide) wd_2_15 rfl (ty := .int) (tyX3_ok 4 (by decide)) rfl rfl (Nat.le_of_ble_eq_true rfl) dX3_init_16 (fun H locs hG hS => ?_)
  replace hG : ty_ok (dC, dI) vwCl Γ (TP dA Γ g) sz ((h0, .inr (3, [.int 0, .int 0, .int x1, .int x3, .int x5, .int 0, .int 0, .null])) :: X) H := hG
  refine lv_aload_n hx hb dX3_init_19 rfl (lv_at hl 0 rfl) ?_
  refine ty_iconst hx hb (0) dX3_init_20 (by decide) (fun x7 h8 => ?_)
  refine rw_X3 hx hb hA hE hG hS hown hin rfl 5 (by decide) wd_2_18 rfl (ty := .boolean) (tyX3_ok 5 (by decide)) (ty_nb (by omega)).1 (ty_nb (by omega)).2.1 (Nat.le_of_ble_eq_true rfl) dX3_init_21 (fun H locs hG hS => ?_)
  replace hG : ty_ok (dC, dI) vwCl Γ (TP dA Γ g) sz ((h0, .inr (3, [.int 0, .int 0, .int x1, .int x3, .int x5, .int x7, .int 0, .null])) :: X) H := hG
  refine lv_aload_n hx hb dX3_init_24 rfl (lv_at hl 0 rfl) ?_
  refine ty_iconst hx hb (0) dX3_init_25 (by decide) (fun x9 h10 => ?_)
  refine rw_X3 hx hb hA hE hG hS hown hin rfl 6 (by decide) wd_2_20 rfl (ty := .boolean) (tyX3_ok 6 (by decide)) (ty_nb (by omega)).1 (ty_nb (by omega)).2.1 (Nat.le_of_ble_eq_true rfl) dX3_init_26 (fun H locs hG hS => ?_)
  replace hG : ty_ok (dC, dI) vwCl Γ (TP dA Γ g) sz ((h0, .inr (3, [.int 0, .int 0, .int x1, .int x3, .int x5, .int x7, .int x9, .null])) :: X) H := hG
  refine lv_aload_n hx hb dX3_init_29 rfl (lv_at hl 0 rfl) ?_
  refine lv_null hx hb dX3_init_30 ?_
  refine rw_X3 hx hb hA hE hG hS hown hin rfl 7 (by decide) wd_2_22 rfl (ty := .object "WeekBank$Wish") (tyX3_ok 7 (by decide)) rfl rfl (Nat.le_of_ble_eq_true rfl) dX3_init_31 (fun H locs hG hS => ?_)
  replace hG : ty_ok (dC, dI) vwCl Γ (TP dA Γ g) sz ((h0, .inr (3, [.int 0, .int 0, .int x1, .int x3, .int x5, .int x7, .int x9, .null])) :: X) H := hG
  refine lv_aload_n hx hb dX3_init_34 rfl (lv_at hl 0 rfl) ?_
  refine lv_iload_n hx hb dX3_init_35 rfl (lv_at hl 1 rfl) ?_
  refine rw_X3 hx hb hA hE hG hS hown hin rfl 0 (by decide) wd_2_6 rfl (ty := .int) (tyX3_ok 0 (by decide)) rfl rfl (Nat.le_of_ble_eq_true rfl) dX3_init_36 (fun H locs hG hS => ?_)
  replace hG : ty_ok (dC, dI) vwCl Γ (TP dA Γ g) sz ((h0, .inr (3, [.int p1, .int 0, .int x1, .int x3, .int x5, .int x7, .int x9, .null])) :: X) H := hG
  refine lv_aload_n hx hb dX3_init_39 rfl (lv_at hl 0 rfl) ?_
  refine lv_iload_n hx hb dX3_init_40 rfl (lv_at hl 2 rfl) ?_
  refine rw_X3 hx hb hA hE hG hS hown hin rfl 1 (by decide) wd_2_8 rfl (ty := .int) (tyX3_ok 1 (by decide)) rfl rfl (Nat.le_of_ble_eq_true rfl) dX3_init_41 (fun H locs hG hS => ?_)
  replace hG : ty_ok (dC, dI) vwCl Γ (TP dA Γ g) sz ((h0, .inr (3, [.int p1, .int p2, .int x1, .int x3, .int x5, .int x7, .int x9, .null])) :: X) H := hG
  have z_own : ty Γ h0 0 := (hG.2.2.2 _ List.mem_cons_self).2.1
  have hx11 : ext Γ (va_up Γ h0 (3, 0)) := ext.up z_own
  have hG := tp_adopt (t := (3, 0)) hG (by rw [TP_3 rfl]; exact ⟨_, rfl, rfl, fun k hk => match k, hk with
        | 0, _ => ⟨_, rfl⟩
        | 1, _ => ⟨_, rfl⟩
        | 2, _ => ⟨_, rfl⟩
        | 3, _ => ⟨_, rfl⟩
        | 4, _ => ⟨_, rfl⟩
        | 5, _ => ⟨_, rfl, by first | exact Or.inl rfl | omega⟩
        | 6, _ => ⟨_, rfl, by first | exact Or.inl rfl | omega⟩
        | 7, _ => ⟨none, rfl, fun _ h => by cases h⟩
      ⟩)
  obtain ⟨Γ12, eΓ12⟩ : ∃ z, z = va_up Γ h0 (3, 0) := ⟨_, rfl⟩
  rw [← eΓ12] at hG
  have hx13 : ext Γ Γ12 := by rw [eΓ12]; exact ext.up z_own
  have hU : Un Γ12 := by rw [eΓ12]; exact Un.up0 hU rfl rfl
  have hX14 : ext Γ Γ12 := ext.trans ext.rf hx13
  have t_h0 : ty Γ12 h0 3 := by rw [eΓ12]; unfold ty; rw [va_up_self]
  clear z_own
  exact W.vret hx hb hr (fun t ht hW => ⟨⟨(Γ12, g), rfl, ⟨hX14, hU, t_h0, rfl⟩, ok2 ht hG⟩, hS.F ht⟩) hS.2.2 dX3_init_44

set_option maxHeartbeats 4000000 in
set_option maxRecDepth 100000 in
/-- WeekBank.flat:  -/
theorem k_X8_flat (l : Launch) (dC : Nat → ClassId) (dI : Nat → Nat → Nat) (dA : Nat → ClassId) (sz : Nat) (X : va_W) (Γ : ty_G) (hU : Un Γ) (g : gh) (h0 : Nat) (t_h0 : ty Γ h0 1) (p1 : Int32) (p2 : Int32) (g1 : g 1 0 = g 33 0 ∧ 0 ≤ g 1 0 ∧ g 1 0 ≤ 6) : Met l yX8_flat (.code yX8_flat cX8_flat 4 (Option.some Jvm.ClassFile.FieldType.int) :: AL) ({ frames := 2, cells := 4, slots := 165, locals := 35 }) (PCx dC dI dA sz X Γ g [.ref h0, .int p1, .int p2]) (va_Qi (fun (r : Int32) (u : (ty_G × gh)) => ext Γ u.1 ∧ Un u.1 ∧ (∀ c j : Nat, c ≠ 1 → c ≠ 33 → u.2 c j = g c j) ∧ ((0 ≤ p1.toInt ∧ p1.toInt ≤ 3 ∧ 1 ≤ p2.toInt ∧ p2.toInt ≤ 4 ∧ g 1 0 < 6 → r.toInt = g 1 0 ∧ u.2 1 0 = g 1 0 + 1 ∧ u.2 33 0 = g 1 0 + 1) ∧ (¬ (0 ≤ p1.toInt ∧ p1.toInt ≤ 3 ∧ 1 ≤ p2.toInt ∧ p2.toInt ≤ 4 ∧ g 1 0 < 6) → r.toInt = -1 ∧ u.2 1 0 = g 1 0 ∧ u.2 33 0 = g 1 0))) (okB dC dI dA sz X) (ty_A sz)) 4 165 (ty_A sz) := by
  refine Met.ofW (cc := cX8_flat) (maxL := 4) (ret := (Option.some Jvm.ClassFile.FieldType.int)) (by decide) rfl ?_
  intro p e s m args below meth c s₁ B hml hv
  obtain ⟨rfl, hG, hE⟩ := hv
  have hx := B.exec
  have hb := B.bytes
  have hr := B.returns
  have hts := atoms_spec B.pre
  have hA : ∀ w ∈ AL, w.before _ s = true := fun w h => hts w (List.mem_cons_of_mem _ h)
  have hown : s.vm.findClass RX8 = some m.cls := findClass_of_methodNamed B.named
  have hlocks := B.notSynchronized
  have hS : va_S (ty_A sz) s.heap s.heap [] := va_S.rf
  have hl := lv_entry ([.ref h0, .int p1, .int p2]) (n := 4) (Nat.le_of_ble_eq_true rfl)
  rw [lg_entry_eq]
  generalize (lg_sl ([.ref h0, .int p1, .int p2]) ++ List.replicate (4 - (lg_sl ([.ref h0, .int p1, .int p2])).length) Slot.unset).toArray = ls at hl ⊢
  have hl : lv_has ls 4 [(0, .ref h0), (1, .int p1), (2, .int p2)] := hl
  refine lv_iload_n hx hb dX8_flat_0 rfl (lv_at hl 1 rfl) ?_
  refine ty_if_lt (tgt := 25) hx hb dX8_flat_1 (by decide) (fun c1 => ?_) (fun c1 => ?_)
  · skip
    refine ty_iconst hx hb (-1) dX8_flat_25 (by decide) (fun x2 h3 => ?_)
    refine W.widen (k := 4) (n := 165) (by omega) (by omega) ?_
    exact W.iret (v := x2) hx hb hr (fun t ht hW => ⟨⟨x2, (Γ, g), rfl, ⟨ext.rf, hU, (fun c j h1 h33 => by rfl), (by dsimp only; omega)⟩, ok2 ht hG⟩, hS.F ht⟩) hS.2.2 dX8_flat_26
  · skip
    refine lv_iload_n hx hb dX8_flat_4 rfl (lv_at hl 1 rfl) ?_
    refine ty_iconst hx hb (3) dX8_flat_5 (by decide) (fun x4 h5 => ?_)
    refine ty_icmp_gt (tgt := 25) hx hb dX8_flat_6 (by decide) (fun c6 => ?_) (fun c6 => ?_)
    · skip
      refine ty_iconst hx hb (-1) dX8_flat_25 (by decide) (fun x7 h8 => ?_)
      refine W.widen (k := 4) (n := 165) (by omega) (by omega) ?_
      exact W.iret (v := x7) hx hb hr (fun t ht hW => ⟨⟨x7, (Γ, g), rfl, ⟨ext.rf, hU, (fun c j h1 h33 => by rfl), (by dsimp only; omega)⟩, ok2 ht hG⟩, hS.F ht⟩) hS.2.2 dX8_flat_26
    · skip
      refine lv_iload_n hx hb dX8_flat_9 rfl (lv_at hl 2 rfl) ?_
      refine cI (va_runS (As := [.int p2]) (rest := []) ⟨hx, hb, hml, hown, hA⟩ (k_X8_isSize l dC dI dA sz X Γ hU g p2   ) ⟨callB_of 1 hA (al_A wd_1_203) rfl rfl rfl (hA _ wd_1_1) (hA _ wd_1_201) (by decide +kernel) ⟨Nat.le_of_ble_eq_true rfl, Nat.le_of_ble_eq_true rfl⟩, hA _ wd_1_202⟩ ⟨bl, fun U hU9 hW9 => ⟨rfl, by rw [hU9]; exact hG, hE.go hS hU9 hW9⟩⟩ rfl rfl hl.1 rfl (lv_room (Nat.le_of_ble_eq_true rfl)) dX8_flat_10 ⟨Nat.zero_le _, Nat.zero_le _⟩) hS (fun x11 u9 H locs w10 hG hS => ?_)
      obtain ⟨eu12, w10⟩ := w10
      rw [eu12] at hG
      refine ty_if_eq (tgt := 25) hx hb dX8_flat_13 (by decide) (fun c13 => ?_) (fun c13 => ?_)
      · skip
        refine ty_iconst hx hb (-1) dX8_flat_25 (by decide) (fun x14 h15 => ?_)
        refine W.widen (k := 4) (n := 165) (by omega) (by omega) ?_
        exact W.iret (v := x14) hx hb hr (fun t ht hW => ⟨⟨x14, (Γ, g), rfl, ⟨ext.rf, hU, (fun c j h1 h33 => by rfl), (by dsimp only; omega)⟩, ok2 ht hG⟩, hS.F ht⟩) hS.2.2 dX8_flat_26
      · skip
        refine lv_aload_n hx hb dX8_flat_16 rfl (lv_at hl 0 rfl) ?_
        refine get_X8_1 hx hb hA hown hE hG t_h0 wd_1_158 dX8_flat_17 (fun x16 h17 => ?_)
        refine ty_bipush hx hb (6) dX8_flat_20 (by decide) (fun x19 h20 => ?_)
        refine ty_icmp_lt (tgt := 27) hx hb dX8_flat_22 (by decide) (fun c21 => ?_) (fun c21 => ?_)
        · skip
          refine lv_aload_n hx hb dX8_flat_27 rfl (lv_at hl 0 rfl) ?_
          refine get_X8_1 hx hb hA hown hE hG t_h0 wd_1_158 dX8_flat_28 (fun x22 h23 => ?_)
          refine lv_istore_n (lv' := [(3, .int x22), (0, .ref h0), (1, .int p1), (2, .int p2)]) hx hb dX8_flat_31 rfl hl (by decide) rfl (fun ls hl => ?_)
          refine lv_aload_n hx hb dX8_flat_32 rfl (lv_at hl 1 rfl) ?_
          refine get_X8_0 hx hb hA hown hE hG t_h0 wd_1_157 dX8_flat_33 (fun b25 (t_b25 : ty Γ b25 10) => ?_)
          refine lv_iload_n hx hb dX8_flat_36 rfl (lv_at hl 0 rfl) ?_
          refine new_X1 hx hb hA hE hG hS hown wd_1_30 wd_1_204 wd_1_8 (Nat.le_of_ble_eq_true rfl) (Nat.le_of_ble_eq_true rfl) dX8_flat_37 (fun q26 H z_q26 s_q26 e_q26 hG hS => ?_)
          clear z_q26 s_q26 e_q26
          refine lv_dup hx hb dX8_flat_40 rfl ?_
          refine lv_iload_n hx hb dX8_flat_41 rfl (lv_at hl 0 rfl) ?_
          refine lv_iload_n hx hb dX8_flat_42 rfl (lv_at hl 2 rfl) ?_
          refine lv_iload_n hx hb dX8_flat_43 rfl (lv_at hl 3 rfl) ?_
          refine cVB (va_runI (As := [.int x22, .int p1, .int p2]) (rest := [.ref q26, .int x22, .ref b25]) ⟨hx, hb, hml, hown, hA⟩ (k_X1_init l dC dI dA sz X Γ hU g q26 x22 p1 p2   ) ⟨callB_of 3 hA (al_A wd_1_207) rfl rfl rfl (hA _ wd_1_8) (hA _ wd_1_205) (by decide +kernel) ⟨Nat.le_of_ble_eq_true rfl, Nat.le_of_ble_eq_true rfl⟩, rfl, hA _ wd_1_206⟩ ⟨bl, fun U hU9 hW9 => ⟨rfl, by rw [hU9]; exact hG, hE.go hS hU9 hW9⟩⟩ rfl rfl hl.1 rfl (lv_room (Nat.le_of_ble_eq_true rfl)) dX8_flat_44 ⟨Nat.le_of_ble_eq_true rfl, Nat.le_of_ble_eq_true rfl⟩) hS (fun u27 H locs w28 hG hS => ?_)
          obtain ⟨Γ29, g30⟩ := u27
          dsimp only at w28 hG
          obtain ⟨hx31, hU, t_q26, eu35⟩ := w28
          rw [eu35] at hG
          replace t_q26 : ty Γ29 q26 2 := t_q26
          have hX36 : ext Γ Γ29 := ext.trans ext.rf hx31
          replace t_h0 : ty Γ29 h0 1 := hx31.one t_h0 (by decide)
          replace t_b25 : ty Γ29 b25 10 := hx31.one t_b25 (by decide)
          refine ast_10 hx hb hE hG hS hU t_b25 t_q26 (by omega) (by omega) dX8_flat_47 (fun H locs hG hS => ?_)
          refine lv_aload_n hx hb dX8_flat_48 rfl (lv_at hl 1 rfl) ?_
          refine lv_dup hx hb dX8_flat_49 rfl ?_
          refine get_X8_1 hx hb hA hown hE hG t_h0 wd_1_158 dX8_flat_50 (fun x37 h38 => ?_)
          replace h38 : x37.toInt = g 1 0 := by rw [h38]; simp [gs]
          refine ty_iconst hx hb (1) dX8_flat_53 (by decide) (fun x40 h41 => ?_)
          refine ty_iadd hx hb dX8_flat_54 (fun x42 h43 => ?_)
          try have h44 : x42.toInt = x37.toInt + x40.toInt := ty_add h43 (by omega) (by omega)
          refine put_X8_1 hx hb hA hown hE hG hS hU t_h0 wd_1_158 dX8_flat_55 (fun H locs hG hS => ?_)
          refine lv_iload_n hx hb dX8_flat_58 rfl (lv_at hl 0 rfl) ?_
          have e45 : (gs (gs g 33 0 (x22.toInt + 1)) 1 0 x42.toInt) 1 0 = x42.toInt := by simp [gs]
          have e46 : (gs (gs g 33 0 (x22.toInt + 1)) 1 0 x42.toInt) 33 0 = (x22.toInt + 1) := by simp [gs]
          refine W.widen (k := 4) (n := 165) (by omega) (by omega) ?_
          exact W.iret (v := x22) hx hb hr (fun t ht hW => ⟨⟨x22, (Γ29, (gs (gs g 33 0 (x22.toInt + 1)) 1 0 x42.toInt)), rfl, ⟨hX36, hU, (fun c j h1 h33 => by (try dsimp only); rw [gs_c _ _ _ _ h1, gs_c _ _ _ _ h33]), (by dsimp only; omega)⟩, ok2 ht hG⟩, hS.F ht⟩) hS.2.2 dX8_flat_59
        · skip
          refine ty_iconst hx hb (-1) dX8_flat_25 (by decide) (fun x47 h48 => ?_)
          refine W.widen (k := 4) (n := 165) (by omega) (by omega) ?_
          exact W.iret (v := x47) hx hb hr (fun t ht hW => ⟨⟨x47, (Γ, g), rfl, ⟨ext.rf, hU, (fun c j h1 h33 => by rfl), (by dsimp only; omega)⟩, ok2 ht hG⟩, hS.F ht⟩) hS.2.2 dX8_flat_26

set_option maxHeartbeats 4000000 in
set_option maxRecDepth 100000 in
/-- WeekBank.owner:  -/
theorem k_X8_owner (l : Launch) (dC : Nat → ClassId) (dI : Nat → Nat → Nat) (dA : Nat → ClassId) (sz : Nat) (X : va_W) (Γ : ty_G) (hU : Un Γ) (g : gh) (h0 : Nat) (t_h0 : ty Γ h0 1) (p1 : Int32) (g2 : g 2 0 = g 34 0 ∧ 0 ≤ g 2 0 ∧ g 2 0 ≤ 10) : Met l yX8_owner (.code yX8_owner cX8_owner 3 (Option.some Jvm.ClassFile.FieldType.int) :: AL) ({ frames := 2, cells := 1, slots := 8, locals := 34 }) (PCx dC dI dA sz X Γ g [.ref h0, .int p1]) (va_Qi (fun (r : Int32) (u : (ty_G × gh)) => ext Γ u.1 ∧ Un u.1 ∧ (∀ c j : Nat, c ≠ 2 → c ≠ 34 → u.2 c j = g c j) ∧ ((0 ≤ p1.toInt ∧ p1.toInt ≤ 9999 ∧ g 2 0 < 10 → r.toInt = g 2 0 ∧ u.2 2 0 = g 2 0 + 1 ∧ u.2 34 0 = g 2 0 + 1) ∧ (¬ (0 ≤ p1.toInt ∧ p1.toInt ≤ 9999 ∧ g 2 0 < 10) → r.toInt = -1 ∧ u.2 2 0 = g 2 0 ∧ u.2 34 0 = g 2 0))) (okB dC dI dA sz X) (ty_A sz)) 1 8 (ty_A sz) := by
  refine Met.ofW (cc := cX8_owner) (maxL := 3) (ret := (Option.some Jvm.ClassFile.FieldType.int)) (by decide) rfl ?_
  intro p e s m args below meth c s₁ B hml hv
  obtain ⟨rfl, hG, hE⟩ := hv
  have hx := B.exec
  have hb := B.bytes
  have hr := B.returns
  have hts := atoms_spec B.pre
  have hA : ∀ w ∈ AL, w.before _ s = true := fun w h => hts w (List.mem_cons_of_mem _ h)
  have hown : s.vm.findClass RX8 = some m.cls := findClass_of_methodNamed B.named
  have hlocks := B.notSynchronized
  have hS : va_S (ty_A sz) s.heap s.heap [] := va_S.rf
  have hl := lv_entry ([.ref h0, .int p1]) (n := 3) (Nat.le_of_ble_eq_true rfl)
  rw [lg_entry_eq]
  generalize (lg_sl ([.ref h0, .int p1]) ++ List.replicate (3 - (lg_sl ([.ref h0, .int p1])).length) Slot.unset).toArray = ls at hl ⊢
  have hl : lv_has ls 3 [(0, .ref h0), (1, .int p1)] := hl
  refine lv_iload_n hx hb dX8_owner_0 rfl (lv_at hl 1 rfl) ?_
  refine ty_if_lt (tgt := 20) hx hb dX8_owner_1 (by decide) (fun c1 => ?_) (fun c1 => ?_)
  · skip
    refine ty_iconst hx hb (-1) dX8_owner_20 (by decide) (fun x2 h3 => ?_)
    refine W.widen (k := 1) (n := 8) (by omega) (by omega) ?_
    exact W.iret (v := x2) hx hb hr (fun t ht hW => ⟨⟨x2, (Γ, g), rfl, ⟨ext.rf, hU, (fun c j h2 h34 => by rfl), (by dsimp only; omega)⟩, ok2 ht hG⟩, hS.F ht⟩) hS.2.2 dX8_owner_21
  · skip
    refine lv_iload_n hx hb dX8_owner_4 rfl (lv_at hl 1 rfl) ?_
    refine ty_sipush hx hb (9999) dX8_owner_5 (by decide) (fun x4 h5 => ?_)
    refine ty_icmp_gt (tgt := 20) hx hb dX8_owner_8 (by decide) (fun c6 => ?_) (fun c6 => ?_)
    · skip
      refine ty_iconst hx hb (-1) dX8_owner_20 (by decide) (fun x7 h8 => ?_)
      refine W.widen (k := 1) (n := 8) (by omega) (by omega) ?_
      exact W.iret (v := x7) hx hb hr (fun t ht hW => ⟨⟨x7, (Γ, g), rfl, ⟨ext.rf, hU, (fun c j h2 h34 => by rfl), (by dsimp only; omega)⟩, ok2 ht hG⟩, hS.F ht⟩) hS.2.2 dX8_owner_21
    · skip
      refine lv_aload_n hx hb dX8_owner_11 rfl (lv_at hl 0 rfl) ?_
      refine get_X8_3 hx hb hA hown hE hG t_h0 wd_1_160 dX8_owner_12 (fun x9 h10 => ?_)
      refine ty_bipush hx hb (10) dX8_owner_15 (by decide) (fun x12 h13 => ?_)
      refine ty_icmp_lt (tgt := 22) hx hb dX8_owner_17 (by decide) (fun c14 => ?_) (fun c14 => ?_)
      · skip
        refine lv_aload_n hx hb dX8_owner_22 rfl (lv_at hl 0 rfl) ?_
        refine get_X8_3 hx hb hA hown hE hG t_h0 wd_1_160 dX8_owner_23 (fun x15 h16 => ?_)
        refine lv_istore_n (lv' := [(2, .int x15), (0, .ref h0), (1, .int p1)]) hx hb dX8_owner_26 rfl hl (by decide) rfl (fun ls hl => ?_)
        refine lv_aload_n hx hb dX8_owner_27 rfl (lv_at hl 1 rfl) ?_
        refine get_X8_2 hx hb hA hown hE hG t_h0 wd_1_159 dX8_owner_28 (fun b18 (t_b18 : ty Γ b18 11) => ?_)
        refine lv_iload_n hx hb dX8_owner_31 rfl (lv_at hl 0 rfl) ?_
        refine new_X3 hx hb hA hE hG hS hown wd_1_32 wd_2_1 wd_1_9 (Nat.le_of_ble_eq_true rfl) (Nat.le_of_ble_eq_true rfl) dX8_owner_32 (fun q19 H z_q19 s_q19 e_q19 hG hS => ?_)
        clear z_q19 s_q19 e_q19
        refine lv_dup hx hb dX8_owner_35 rfl ?_
        refine lv_iload_n hx hb dX8_owner_36 rfl (lv_at hl 0 rfl) ?_
        refine lv_iload_n hx hb dX8_owner_37 rfl (lv_at hl 2 rfl) ?_
        refine cVB (va_runI (As := [.int x15, .int p1]) (rest := [.ref q19, .int x15, .ref b18]) ⟨hx, hb, hml, hown, hA⟩ (k_X3_init l dC dI dA sz X Γ hU g q19 x15 p1   ) ⟨callB_of 2 hA (al_A wd_2_4) rfl rfl rfl (hA _ wd_1_9) (hA _ wd_2_2) (by decide +kernel) ⟨Nat.le_of_ble_eq_true rfl, Nat.le_of_ble_eq_true rfl⟩, rfl, hA _ wd_2_3⟩ ⟨bl, fun U hU9 hW9 => ⟨rfl, by rw [hU9]; exact hG, hE.go hS hU9 hW9⟩⟩ rfl rfl hl.1 rfl (lv_room (Nat.le_of_ble_eq_true rfl)) dX8_owner_38 ⟨Nat.le_of_ble_eq_true rfl, Nat.le_of_ble_eq_true rfl⟩) hS (fun u20 H locs w21 hG hS => ?_)
        obtain ⟨Γ22, g23⟩ := u20
        dsimp only at w21 hG
        obtain ⟨hx24, hU, t_q19, eu28⟩ := w21
        rw [eu28] at hG
        replace t_q19 : ty Γ22 q19 3 := t_q19
        have hX29 : ext Γ Γ22 := ext.trans ext.rf hx24
        replace t_h0 : ty Γ22 h0 1 := hx24.one t_h0 (by decide)
        replace t_b18 : ty Γ22 b18 11 := hx24.one t_b18 (by decide)
        refine ast_11 hx hb hE hG hS hU t_b18 t_q19 (by omega) (by omega) dX8_owner_41 (fun H locs hG hS => ?_)
        refine lv_aload_n hx hb dX8_owner_42 rfl (lv_at hl 1 rfl) ?_
        refine lv_dup hx hb dX8_owner_43 rfl ?_
        refine get_X8_3 hx hb hA hown hE hG t_h0 wd_1_160 dX8_owner_44 (fun x30 h31 => ?_)
        replace h31 : x30.toInt = g 2 0 := by rw [h31]; simp [gs]
        refine ty_iconst hx hb (1) dX8_owner_47 (by decide) (fun x33 h34 => ?_)
        refine ty_iadd hx hb dX8_owner_48 (fun x35 h36 => ?_)
        try have h37 : x35.toInt = x30.toInt + x33.toInt := ty_add h36 (by omega) (by omega)
        refine put_X8_3 hx hb hA hown hE hG hS hU t_h0 wd_1_160 dX8_owner_49 (fun H locs hG hS => ?_)
        refine lv_iload_n hx hb dX8_owner_52 rfl (lv_at hl 0 rfl) ?_
        have e38 : (gs (gs g 34 0 (x15.toInt + 1)) 2 0 x35.toInt) 2 0 = x35.toInt := by simp [gs]
        have e39 : (gs (gs g 34 0 (x15.toInt + 1)) 2 0 x35.toInt) 34 0 = (x15.toInt + 1) := by simp [gs]
        refine W.widen (k := 1) (n := 8) (by omega) (by omega) ?_
        exact W.iret (v := x15) hx hb hr (fun t ht hW => ⟨⟨x15, (Γ22, (gs (gs g 34 0 (x15.toInt + 1)) 2 0 x35.toInt)), rfl, ⟨hX29, hU, (fun c j h2 h34 => by (try dsimp only); rw [gs_c _ _ _ _ h2, gs_c _ _ _ _ h34]), (by dsimp only; omega)⟩, ok2 ht hG⟩, hS.F ht⟩) hS.2.2 dX8_owner_53
      · skip
        refine ty_iconst hx hb (-1) dX8_owner_20 (by decide) (fun x40 h41 => ?_)
        refine W.widen (k := 1) (n := 8) (by omega) (by omega) ?_
        exact W.iret (v := x40) hx hb hr (fun t ht hW => ⟨⟨x40, (Γ, g), rfl, ⟨ext.rf, hU, (fun c j h2 h34 => by rfl), (by dsimp only; omega)⟩, ok2 ht hG⟩, hS.F ht⟩) hS.2.2 dX8_owner_21
