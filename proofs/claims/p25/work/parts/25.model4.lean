set_option maxHeartbeats 4000000 in
set_option maxRecDepth 100000 in
/-- WeekBankModel.<init>:  -/
theorem k_X9_init (l : Launch) (dC : Nat → ClassId) (dI : Nat → Nat → Nat) (dA : Nat → ClassId) (sz : Nat) (X : va_W) (Γ : ty_G) (hU : Un Γ) (g : gh) (h0 : Nat) (L : List ty_N) (hL : tyIn Γ L) (hn : ∀ t ∈ ([30, 102, 103, 105, 106, 107, 108, 109, 110, 113, 123, 125, 127, 128, 129, 130, 131, 132, 133, 134, 135, 136, 138, 139, 140, 144, 145, 146] : List Nat), t ∉ L.map Prod.fst) (z100 : ∀ c j : Nat, 100 ≤ c ∧ c ≠ 121 → g c j = 0) (z121 : g 121 0 = -1) : Met l yX9_init (.code yX9_init cX9_init 2 (Option.none : Option Jvm.ClassFile.FieldType) :: AL) ({ frames := 1, cells := 27, slots := 3734, locals := 12 }) (PCx dC dI dA sz ((h0, .inr (9, dv_X9)) :: X) Γ g [.ref h0]) (va_Qv (fun (u : (ty_G × gh)) => ext Γ u.1 ∧ Un u.1 ∧ tyIn u.1 ((30, 0) :: ((146, 0) :: ((145, 0) :: ((144, 0) :: ((140, 0) :: ((139, 0) :: ((138, 0) :: ((136, 0) :: ((135, 0) :: ((134, 0) :: ((133, 0) :: ((132, 0) :: ((131, 0) :: ((130, 0) :: ((129, 0) :: ((128, 0) :: ((127, 0) :: ((125, 0) :: ((123, 0) :: ((113, 0) :: ((110, 0) :: ((109, 0) :: ((108, 0) :: ((107, 0) :: ((106, 0) :: ((105, 0) :: ((103, 0) :: ((102, 0) :: L)))))))))))))))))))))))))))) ∧ (u.1 h0).1 = 30 ∧ (∀ c j : Nat, c ≠ 109 → u.2 c j = g c j) ∧ (u.2 109 = fz (g 109) 0 (-1) 318)) (okB dC dI dA sz X) (ty_A sz)) 27 3734 (ty_A sz) := by
  refine Met.ofW (cc := cX9_init) (maxL := 2) (ret := (Option.none : Option Jvm.ClassFile.FieldType)) (by decide) rfl ?_
  intro p e s m args below meth c s₁ B hml hv
  obtain ⟨rfl, hG, hE⟩ := hv
  have hx := B.exec
  have hb := B.bytes
  have hr := B.returns
  have hts := atoms_spec B.pre
  have hA : ∀ w ∈ AL, w.before _ s = true := fun w h => hts w (List.mem_cons_of_mem _ h)
  have hown : s.vm.findClass RX9 = some m.cls := findClass_of_methodNamed B.named
  have hlocks := B.notSynchronized
  have hin : meth.name = "<init>" := (name_of_methodNamed B.named B.method).1
  have hS : va_S (ty_A sz) s.heap s.heap [] := va_S.rf
  have hl := lv_entry ([.ref h0]) (n := 2) (Nat.le_of_ble_eq_true rfl)
  rw [lg_entry_eq]
  generalize (lg_sl ([.ref h0]) ++ List.replicate (2 - (lg_sl ([.ref h0])).length) Slot.unset).toArray = ls at hl ⊢
  have hl : lv_has ls 2 [(0, .ref h0)] := hl
  refine lv_aload_n hx hb dX9_init_0 rfl (lv_at hl 0 rfl) ?_
  refine W.objInit hx hb hown (hA _ wd_4_129) (hA _ wd_1_28) (hA _ wd_1_29) rfl (by rw [hml]; exact hl.1) rfl dX9_init_1 (Nat.le_of_ble_eq_true rfl) (Nat.le_of_ble_eq_true rfl) ?_
  refine W.eq (g2 := F0 m 4 ls []) rfl ?_
  refine lv_aload_n hx hb dX9_init_4 rfl (lv_at hl 0 rfl) ?_
  refine ty_bipush hx hb (6) dX9_init_5 (by decide) (fun x1 h2 => ?_)
  refine new_I hx hb hA hE hG hS wd_1_70 (N := 6) (by omega) (by decide) (Nat.le_of_ble_eq_true rfl) (Nat.le_of_ble_eq_true rfl) (102, 0) (fun Γ' => by rw [TP_m (k := 2) rfl]; exact ⟨_, rfl, fun j hj => by rw [Nat.zero_add]; exact (z100 102 j (by decide)).symm, fun j hj => ⟨show mLo 2 ≤ (0 : Int32).toInt by decide, show (0 : Int32).toInt ≤ mHi 2 by decide⟩⟩) dX9_init_7 (fun q3 H z_q3 s_q3 e_q3 hG hS => ?_)
  obtain ⟨Γ4, eΓ4⟩ : ∃ z, z = va_up Γ q3 (102, 0) := ⟨_, rfl⟩
  rw [← eΓ4] at hG
  have hx5 : ext Γ Γ4 := by rw [eΓ4]; exact ext.up z_q3
  have hU : Un Γ4 := by rw [eΓ4]; exact Un.up hU hL (by show (102 : Nat) ≠ 0; decide) (fun _ => (hn 102 (by decide))) (fun h => absurd (show sg2 102 = true from h) (by decide))
  have hL6 : tyIn Γ4 ((102, 0) :: L) := by rw [eΓ4]; exact hL.up
  have hX7 : ext Γ Γ4 := ext.trans ext.rf hx5
  have t_q3 : ty Γ4 q3 102 := by rw [eΓ4]; unfold ty; rw [va_up_self]
  clear z_q3 s_q3 e_q3
  refine rw_X9 hx hb hA hE hG hS hown hin rfl 2 (by decide) wd_4_132 rfl (ty := .array .int) (tyX9_ok 2 (by decide)) rfl rfl (Nat.le_of_ble_eq_true rfl) dX9_init_9 (fun H locs hG hS => ?_)
  replace hG : ty_ok (dC, dI) vwCl Γ4 (TP dA Γ4 g) sz ((h0, .inr (9, [.int 0, .int 0, .ref q3, .null, .int 0, .null, .null, .null, .null, .null, .null, .int 0, .int 0, .null, .int 0, .int 0, .int 0, .int 0, .int 0, .int 0, .int 0, .int 0, .int 0, .null, .int 0, .null, .int 0, .null, .null, .null, .null, .null, .null, .null, .null, .null, .null, .int 0, .null, .null, .null, .int 0, .int 0, .int 0, .null, .null, .null])) :: X) H := hG
  refine lv_aload_n hx hb dX9_init_12 rfl (lv_at hl 0 rfl) ?_
  refine ty_bipush hx hb (6) dX9_init_13 (by decide) (fun x8 h9 => ?_)
  refine new_I hx hb hA hE hG hS wd_1_70 (N := 6) (by omega) (by decide) (Nat.le_of_ble_eq_true rfl) (Nat.le_of_ble_eq_true rfl) (103, 0) (fun Γ' => by rw [TP_m (k := 3) rfl]; exact ⟨_, rfl, fun j hj => by rw [Nat.zero_add]; exact (z100 103 j (by decide)).symm, fun j hj => ⟨show mLo 3 ≤ (0 : Int32).toInt by decide, show (0 : Int32).toInt ≤ mHi 3 by decide⟩⟩) dX9_init_15 (fun q10 H z_q10 s_q10 e_q10 hG hS => ?_)
  obtain ⟨Γ11, eΓ11⟩ : ∃ z, z = va_up Γ4 q10 (103, 0) := ⟨_, rfl⟩
  rw [← eΓ11] at hG
  have hx12 : ext Γ4 Γ11 := by rw [eΓ11]; exact ext.up z_q10
  have hU : Un Γ11 := by rw [eΓ11]; exact Un.up hU hL6 (by show (103 : Nat) ≠ 0; decide) (fun _ => (nmap (by show (103 : Nat) ≠ 102; decide) (hn 103 (by decide)))) (fun h => absurd (show sg2 103 = true from h) (by decide))
  have hL13 : tyIn Γ11 ((103, 0) :: ((102, 0) :: L)) := by rw [eΓ11]; exact hL6.up
  have hX14 : ext Γ Γ11 := ext.trans hX7 hx12
  replace t_q3 : ty Γ11 q3 102 := hx12.one t_q3 (by decide)
  have t_q10 : ty Γ11 q10 103 := by rw [eΓ11]; unfold ty; rw [va_up_self]
  clear z_q10 s_q10 e_q10
  refine rw_X9 hx hb hA hE hG hS hown hin rfl 3 (by decide) wd_4_133 rfl (ty := .array .int) (tyX9_ok 3 (by decide)) rfl rfl (Nat.le_of_ble_eq_true rfl) dX9_init_17 (fun H locs hG hS => ?_)
  replace hG : ty_ok (dC, dI) vwCl Γ11 (TP dA Γ11 g) sz ((h0, .inr (9, [.int 0, .int 0, .ref q3, .ref q10, .int 0, .null, .null, .null, .null, .null, .null, .int 0, .int 0, .null, .int 0, .int 0, .int 0, .int 0, .int 0, .int 0, .int 0, .int 0, .int 0, .null, .int 0, .null, .int 0, .null, .null, .null, .null, .null, .null, .null, .null, .null, .null, .int 0, .null, .null, .null, .int 0, .int 0, .int 0, .null, .null, .null])) :: X) H := hG
  refine lv_aload_n hx hb dX9_init_20 rfl (lv_at hl 0 rfl) ?_
  refine ty_bipush hx hb (10) dX9_init_21 (by decide) (fun x15 h16 => ?_)
  refine new_I hx hb hA hE hG hS wd_1_70 (N := 10) (by omega) (by decide) (Nat.le_of_ble_eq_true rfl) (Nat.le_of_ble_eq_true rfl) (105, 0) (fun Γ' => by rw [TP_m (k := 5) rfl]; exact ⟨_, rfl, fun j hj => by rw [Nat.zero_add]; exact (z100 105 j (by decide)).symm, fun j hj => ⟨show mLo 5 ≤ (0 : Int32).toInt by decide, show (0 : Int32).toInt ≤ mHi 5 by decide⟩⟩) dX9_init_23 (fun q17 H z_q17 s_q17 e_q17 hG hS => ?_)
  obtain ⟨Γ18, eΓ18⟩ : ∃ z, z = va_up Γ11 q17 (105, 0) := ⟨_, rfl⟩
  rw [← eΓ18] at hG
  have hx19 : ext Γ11 Γ18 := by rw [eΓ18]; exact ext.up z_q17
  have hU : Un Γ18 := by rw [eΓ18]; exact Un.up hU hL13 (by show (105 : Nat) ≠ 0; decide) (fun _ => (nmap (by show (105 : Nat) ≠ 103; decide) (nmap (by show (105 : Nat) ≠ 102; decide) (hn 105 (by decide))))) (fun h => absurd (show sg2 105 = true from h) (by decide))
  have hL20 : tyIn Γ18 ((105, 0) :: ((103, 0) :: ((102, 0) :: L))) := by rw [eΓ18]; exact hL13.up
  have hX21 : ext Γ Γ18 := ext.trans hX14 hx19
  replace t_q3 : ty Γ18 q3 102 := hx19.one t_q3 (by decide)
  replace t_q10 : ty Γ18 q10 103 := hx19.one t_q10 (by decide)
  have t_q17 : ty Γ18 q17 105 := by rw [eΓ18]; unfold ty; rw [va_up_self]
  clear z_q17 s_q17 e_q17
  refine rw_X9 hx hb hA hE hG hS hown hin rfl 5 (by decide) wd_4_135 rfl (ty := .array .int) (tyX9_ok 5 (by decide)) rfl rfl (Nat.le_of_ble_eq_true rfl) dX9_init_25 (fun H locs hG hS => ?_)
  replace hG : ty_ok (dC, dI) vwCl Γ18 (TP dA Γ18 g) sz ((h0, .inr (9, [.int 0, .int 0, .ref q3, .ref q10, .int 0, .ref q17, .null, .null, .null, .null, .null, .int 0, .int 0, .null, .int 0, .int 0, .int 0, .int 0, .int 0, .int 0, .int 0, .int 0, .int 0, .null, .int 0, .null, .int 0, .null, .null, .null, .null, .null, .null, .null, .null, .null, .null, .int 0, .null, .null, .null, .int 0, .int 0, .int 0, .null, .null, .null])) :: X) H := hG
  refine lv_aload_n hx hb dX9_init_28 rfl (lv_at hl 0 rfl) ?_
  refine ty_bipush hx hb (10) dX9_init_29 (by decide) (fun x22 h23 => ?_)
  refine new_I hx hb hA hE hG hS wd_1_70 (N := 10) (by omega) (by decide) (Nat.le_of_ble_eq_true rfl) (Nat.le_of_ble_eq_true rfl) (106, 0) (fun Γ' => by rw [TP_m (k := 6) rfl]; exact ⟨_, rfl, fun j hj => by rw [Nat.zero_add]; exact (z100 106 j (by decide)).symm, fun j hj => ⟨show mLo 6 ≤ (0 : Int32).toInt by decide, show (0 : Int32).toInt ≤ mHi 6 by decide⟩⟩) dX9_init_31 (fun q24 H z_q24 s_q24 e_q24 hG hS => ?_)
  obtain ⟨Γ25, eΓ25⟩ : ∃ z, z = va_up Γ18 q24 (106, 0) := ⟨_, rfl⟩
  rw [← eΓ25] at hG
  have hx26 : ext Γ18 Γ25 := by rw [eΓ25]; exact ext.up z_q24
  have hU : Un Γ25 := by rw [eΓ25]; exact Un.up hU hL20 (by show (106 : Nat) ≠ 0; decide) (fun _ => (nmap (by show (106 : Nat) ≠ 105; decide) (nmap (by show (106 : Nat) ≠ 103; decide) (nmap (by show (106 : Nat) ≠ 102; decide) (hn 106 (by decide)))))) (fun h => absurd (show sg2 106 = true from h) (by decide))
  have hL27 : tyIn Γ25 ((106, 0) :: ((105, 0) :: ((103, 0) :: ((102, 0) :: L)))) := by rw [eΓ25]; exact hL20.up
  have hX28 : ext Γ Γ25 := ext.trans hX21 hx26
  replace t_q3 : ty Γ25 q3 102 := hx26.one t_q3 (by decide)
  replace t_q10 : ty Γ25 q10 103 := hx26.one t_q10 (by decide)
  replace t_q17 : ty Γ25 q17 105 := hx26.one t_q17 (by decide)
  have t_q24 : ty Γ25 q24 106 := by rw [eΓ25]; unfold ty; rw [va_up_self]
  clear z_q24 s_q24 e_q24
  refine rw_X9 hx hb hA hE hG hS hown hin rfl 6 (by decide) wd_4_136 rfl (ty := .array .int) (tyX9_ok 6 (by decide)) rfl rfl (Nat.le_of_ble_eq_true rfl) dX9_init_33 (fun H locs hG hS => ?_)
  replace hG : ty_ok (dC, dI) vwCl Γ25 (TP dA Γ25 g) sz ((h0, .inr (9, [.int 0, .int 0, .ref q3, .ref q10, .int 0, .ref q17, .ref q24, .null, .null, .null, .null, .int 0, .int 0, .null, .int 0, .int 0, .int 0, .int 0, .int 0, .int 0, .int 0, .int 0, .int 0, .null, .int 0, .null, .int 0, .null, .null, .null, .null, .null, .null, .null, .null, .null, .null, .int 0, .null, .null, .null, .int 0, .int 0, .int 0, .null, .null, .null])) :: X) H := hG
  refine lv_aload_n hx hb dX9_init_36 rfl (lv_at hl 0 rfl) ?_
  refine ty_bipush hx hb (10) dX9_init_37 (by decide) (fun x29 h30 => ?_)
  refine new_I hx hb hA hE hG hS wd_1_70 (N := 10) (by omega) (by decide) (Nat.le_of_ble_eq_true rfl) (Nat.le_of_ble_eq_true rfl) (107, 0) (fun Γ' => by rw [TP_m (k := 7) rfl]; exact ⟨_, rfl, fun j hj => by rw [Nat.zero_add]; exact (z100 107 j (by decide)).symm, fun j hj => ⟨show mLo 7 ≤ (0 : Int32).toInt by decide, show (0 : Int32).toInt ≤ mHi 7 by decide⟩⟩) dX9_init_39 (fun q31 H z_q31 s_q31 e_q31 hG hS => ?_)
  obtain ⟨Γ32, eΓ32⟩ : ∃ z, z = va_up Γ25 q31 (107, 0) := ⟨_, rfl⟩
  rw [← eΓ32] at hG
  have hx33 : ext Γ25 Γ32 := by rw [eΓ32]; exact ext.up z_q31
  have hU : Un Γ32 := by rw [eΓ32]; exact Un.up hU hL27 (by show (107 : Nat) ≠ 0; decide) (fun _ => (nmap (by show (107 : Nat) ≠ 106; decide) (nmap (by show (107 : Nat) ≠ 105; decide) (nmap (by show (107 : Nat) ≠ 103; decide) (nmap (by show (107 : Nat) ≠ 102; decide) (hn 107 (by decide))))))) (fun h => absurd (show sg2 107 = true from h) (by decide))
  have hL34 : tyIn Γ32 ((107, 0) :: ((106, 0) :: ((105, 0) :: ((103, 0) :: ((102, 0) :: L))))) := by rw [eΓ32]; exact hL27.up
  have hX35 : ext Γ Γ32 := ext.trans hX28 hx33
  replace t_q3 : ty Γ32 q3 102 := hx33.one t_q3 (by decide)
  replace t_q10 : ty Γ32 q10 103 := hx33.one t_q10 (by decide)
  replace t_q17 : ty Γ32 q17 105 := hx33.one t_q17 (by decide)
  replace t_q24 : ty Γ32 q24 106 := hx33.one t_q24 (by decide)
  have t_q31 : ty Γ32 q31 107 := by rw [eΓ32]; unfold ty; rw [va_up_self]
  clear z_q31 s_q31 e_q31
  refine rw_X9 hx hb hA hE hG hS hown hin rfl 7 (by decide) wd_4_137 rfl (ty := .array .int) (tyX9_ok 7 (by decide)) rfl rfl (Nat.le_of_ble_eq_true rfl) dX9_init_41 (fun H locs hG hS => ?_)
  replace hG : ty_ok (dC, dI) vwCl Γ32 (TP dA Γ32 g) sz ((h0, .inr (9, [.int 0, .int 0, .ref q3, .ref q10, .int 0, .ref q17, .ref q24, .ref q31, .null, .null, .null, .int 0, .int 0, .null, .int 0, .int 0, .int 0, .int 0, .int 0, .int 0, .int 0, .int 0, .int 0, .null, .int 0, .null, .int 0, .null, .null, .null, .null, .null, .null, .null, .null, .null, .null, .int 0, .null, .null, .null, .int 0, .int 0, .int 0, .null, .null, .null])) :: X) H := hG
  refine lv_aload_n hx hb dX9_init_44 rfl (lv_at hl 0 rfl) ?_
  refine ty_bipush hx hb (10) dX9_init_45 (by decide) (fun x36 h37 => ?_)
  refine new_Z hx hb hA hE hG hS wd_1_156 (N := 10) (by omega) (by decide) (Nat.le_of_ble_eq_true rfl) (Nat.le_of_ble_eq_true rfl) (108, 0) (fun Γ' => by rw [TP_m (k := 8) rfl]; exact ⟨_, rfl, fun j hj => by rw [Nat.zero_add]; exact (z100 108 j (by decide)).symm, fun j hj => ⟨show mLo 8 ≤ (0 : Int32).toInt by decide, show (0 : Int32).toInt ≤ mHi 8 by decide⟩⟩) dX9_init_47 (fun q38 H z_q38 s_q38 e_q38 hG hS => ?_)
  obtain ⟨Γ39, eΓ39⟩ : ∃ z, z = va_up Γ32 q38 (108, 0) := ⟨_, rfl⟩
  rw [← eΓ39] at hG
  have hx40 : ext Γ32 Γ39 := by rw [eΓ39]; exact ext.up z_q38
  have hU : Un Γ39 := by rw [eΓ39]; exact Un.up hU hL34 (by show (108 : Nat) ≠ 0; decide) (fun _ => (nmap (by show (108 : Nat) ≠ 107; decide) (nmap (by show (108 : Nat) ≠ 106; decide) (nmap (by show (108 : Nat) ≠ 105; decide) (nmap (by show (108 : Nat) ≠ 103; decide) (nmap (by show (108 : Nat) ≠ 102; decide) (hn 108 (by decide)))))))) (fun h => absurd (show sg2 108 = true from h) (by decide))
  have hL41 : tyIn Γ39 ((108, 0) :: ((107, 0) :: ((106, 0) :: ((105, 0) :: ((103, 0) :: ((102, 0) :: L)))))) := by rw [eΓ39]; exact hL34.up
  have hX42 : ext Γ Γ39 := ext.trans hX35 hx40
  replace t_q3 : ty Γ39 q3 102 := hx40.one t_q3 (by decide)
  replace t_q10 : ty Γ39 q10 103 := hx40.one t_q10 (by decide)
  replace t_q17 : ty Γ39 q17 105 := hx40.one t_q17 (by decide)
  replace t_q24 : ty Γ39 q24 106 := hx40.one t_q24 (by decide)
  replace t_q31 : ty Γ39 q31 107 := hx40.one t_q31 (by decide)
  have t_q38 : ty Γ39 q38 108 := by rw [eΓ39]; unfold ty; rw [va_up_self]
  clear z_q38 s_q38 e_q38
  refine rw_X9 hx hb hA hE hG hS hown hin rfl 8 (by decide) wd_4_138 rfl (ty := .array .boolean) (tyX9_ok 8 (by decide)) rfl rfl (Nat.le_of_ble_eq_true rfl) dX9_init_49 (fun H locs hG hS => ?_)
  replace hG : ty_ok (dC, dI) vwCl Γ39 (TP dA Γ39 g) sz ((h0, .inr (9, [.int 0, .int 0, .ref q3, .ref q10, .int 0, .ref q17, .ref q24, .ref q31, .ref q38, .null, .null, .int 0, .int 0, .null, .int 0, .int 0, .int 0, .int 0, .int 0, .int 0, .int 0, .int 0, .int 0, .null, .int 0, .null, .int 0, .null, .null, .null, .null, .null, .null, .null, .null, .null, .null, .int 0, .null, .null, .null, .int 0, .int 0, .int 0, .null, .null, .null])) :: X) H := hG
  refine lv_aload_n hx hb dX9_init_52 rfl (lv_at hl 0 rfl) ?_
  refine ty_sipush hx hb (318) dX9_init_53 (by decide) (fun x43 h44 => ?_)
  refine new_I hx hb hA hE hG hS wd_1_70 (N := 318) (by omega) (by decide) (Nat.le_of_ble_eq_true rfl) (Nat.le_of_ble_eq_true rfl) (109, 0) (fun Γ' => by rw [TP_m (k := 9) rfl]; exact ⟨_, rfl, fun j hj => by rw [Nat.zero_add]; exact (z100 109 j (by decide)).symm, fun j hj => ⟨show mLo 9 ≤ (0 : Int32).toInt by decide, show (0 : Int32).toInt ≤ mHi 9 by decide⟩⟩) dX9_init_56 (fun q45 H z_q45 s_q45 e_q45 hG hS => ?_)
  obtain ⟨Γ46, eΓ46⟩ : ∃ z, z = va_up Γ39 q45 (109, 0) := ⟨_, rfl⟩
  rw [← eΓ46] at hG
  have hx47 : ext Γ39 Γ46 := by rw [eΓ46]; exact ext.up z_q45
  have hU : Un Γ46 := by rw [eΓ46]; exact Un.up hU hL41 (by show (109 : Nat) ≠ 0; decide) (fun _ => (nmap (by show (109 : Nat) ≠ 108; decide) (nmap (by show (109 : Nat) ≠ 107; decide) (nmap (by show (109 : Nat) ≠ 106; decide) (nmap (by show (109 : Nat) ≠ 105; decide) (nmap (by show (109 : Nat) ≠ 103; decide) (nmap (by show (109 : Nat) ≠ 102; decide) (hn 109 (by decide))))))))) (fun h => absurd (show sg2 109 = true from h) (by decide))
  have hL48 : tyIn Γ46 ((109, 0) :: ((108, 0) :: ((107, 0) :: ((106, 0) :: ((105, 0) :: ((103, 0) :: ((102, 0) :: L))))))) := by rw [eΓ46]; exact hL41.up
  have hX49 : ext Γ Γ46 := ext.trans hX42 hx47
  replace t_q3 : ty Γ46 q3 102 := hx47.one t_q3 (by decide)
  replace t_q10 : ty Γ46 q10 103 := hx47.one t_q10 (by decide)
  replace t_q17 : ty Γ46 q17 105 := hx47.one t_q17 (by decide)
  replace t_q24 : ty Γ46 q24 106 := hx47.one t_q24 (by decide)
  replace t_q31 : ty Γ46 q31 107 := hx47.one t_q31 (by decide)
  replace t_q38 : ty Γ46 q38 108 := hx47.one t_q38 (by decide)
  have t_q45 : ty Γ46 q45 109 := by rw [eΓ46]; unfold ty; rw [va_up_self]
  clear z_q45 s_q45 e_q45
  refine rw_X9 hx hb hA hE hG hS hown hin rfl 9 (by decide) wd_4_139 rfl (ty := .array .int) (tyX9_ok 9 (by decide)) rfl rfl (Nat.le_of_ble_eq_true rfl) dX9_init_58 (fun H locs hG hS => ?_)
  replace hG : ty_ok (dC, dI) vwCl Γ46 (TP dA Γ46 g) sz ((h0, .inr (9, [.int 0, .int 0, .ref q3, .ref q10, .int 0, .ref q17, .ref q24, .ref q31, .ref q38, .ref q45, .null, .int 0, .int 0, .null, .int 0, .int 0, .int 0, .int 0, .int 0, .int 0, .int 0, .int 0, .int 0, .null, .int 0, .null, .int 0, .null, .null, .null, .null, .null, .null, .null, .null, .null, .null, .int 0, .null, .null, .null, .int 0, .int 0, .int 0, .null, .null, .null])) :: X) H := hG
  refine lv_aload_n hx hb dX9_init_61 rfl (lv_at hl 0 rfl) ?_
  refine ty_sipush hx hb (318) dX9_init_62 (by decide) (fun x50 h51 => ?_)
  refine new_Z hx hb hA hE hG hS wd_1_156 (N := 318) (by omega) (by decide) (Nat.le_of_ble_eq_true rfl) (Nat.le_of_ble_eq_true rfl) (110, 0) (fun Γ' => by rw [TP_m (k := 10) rfl]; exact ⟨_, rfl, fun j hj => by rw [Nat.zero_add]; exact (z100 110 j (by decide)).symm, fun j hj => ⟨show mLo 10 ≤ (0 : Int32).toInt by decide, show (0 : Int32).toInt ≤ mHi 10 by decide⟩⟩) dX9_init_65 (fun q52 H z_q52 s_q52 e_q52 hG hS => ?_)
  obtain ⟨Γ53, eΓ53⟩ : ∃ z, z = va_up Γ46 q52 (110, 0) := ⟨_, rfl⟩
  rw [← eΓ53] at hG
  have hx54 : ext Γ46 Γ53 := by rw [eΓ53]; exact ext.up z_q52
  have hU : Un Γ53 := by rw [eΓ53]; exact Un.up hU hL48 (by show (110 : Nat) ≠ 0; decide) (fun _ => (nmap (by show (110 : Nat) ≠ 109; decide) (nmap (by show (110 : Nat) ≠ 108; decide) (nmap (by show (110 : Nat) ≠ 107; decide) (nmap (by show (110 : Nat) ≠ 106; decide) (nmap (by show (110 : Nat) ≠ 105; decide) (nmap (by show (110 : Nat) ≠ 103; decide) (nmap (by show (110 : Nat) ≠ 102; decide) (hn 110 (by decide)))))))))) (fun h => absurd (show sg2 110 = true from h) (by decide))
  have hL55 : tyIn Γ53 ((110, 0) :: ((109, 0) :: ((108, 0) :: ((107, 0) :: ((106, 0) :: ((105, 0) :: ((103, 0) :: ((102, 0) :: L)))))))) := by rw [eΓ53]; exact hL48.up
  have hX56 : ext Γ Γ53 := ext.trans hX49 hx54
  replace t_q3 : ty Γ53 q3 102 := hx54.one t_q3 (by decide)
  replace t_q10 : ty Γ53 q10 103 := hx54.one t_q10 (by decide)
  replace t_q17 : ty Γ53 q17 105 := hx54.one t_q17 (by decide)
  replace t_q24 : ty Γ53 q24 106 := hx54.one t_q24 (by decide)
  replace t_q31 : ty Γ53 q31 107 := hx54.one t_q31 (by decide)
  replace t_q38 : ty Γ53 q38 108 := hx54.one t_q38 (by decide)
  replace t_q45 : ty Γ53 q45 109 := hx54.one t_q45 (by decide)
  have t_q52 : ty Γ53 q52 110 := by rw [eΓ53]; unfold ty; rw [va_up_self]
  clear z_q52 s_q52 e_q52
  refine rw_X9 hx hb hA hE hG hS hown hin rfl 10 (by decide) wd_4_140 rfl (ty := .array .boolean) (tyX9_ok 10 (by decide)) rfl rfl (Nat.le_of_ble_eq_true rfl) dX9_init_67 (fun H locs hG hS => ?_)
  replace hG : ty_ok (dC, dI) vwCl Γ53 (TP dA Γ53 g) sz ((h0, .inr (9, [.int 0, .int 0, .ref q3, .ref q10, .int 0, .ref q17, .ref q24, .ref q31, .ref q38, .ref q45, .ref q52, .int 0, .int 0, .null, .int 0, .int 0, .int 0, .int 0, .int 0, .int 0, .int 0, .int 0, .int 0, .null, .int 0, .null, .int 0, .null, .null, .null, .null, .null, .null, .null, .null, .null, .null, .int 0, .null, .null, .null, .int 0, .int 0, .int 0, .null, .null, .null])) :: X) H := hG
  refine lv_aload_n hx hb dX9_init_70 rfl (lv_at hl 0 rfl) ?_
  refine ty_sipush hx hb (300) dX9_init_71 (by decide) (fun x57 h58 => ?_)
  refine new_B hx hb hA hE hG hS wd_2_221 (N := 300) (by omega) (by decide) (Nat.le_of_ble_eq_true rfl) (Nat.le_of_ble_eq_true rfl) (113, 0) (fun Γ' => by rw [TP_m (k := 13) rfl]; exact ⟨_, rfl, fun j hj => by rw [Nat.zero_add]; exact (z100 113 j (by decide)).symm, fun j hj => ⟨show mLo 13 ≤ (0 : Int32).toInt by decide, show (0 : Int32).toInt ≤ mHi 13 by decide⟩⟩) dX9_init_74 (fun q59 H z_q59 s_q59 e_q59 hG hS => ?_)
  obtain ⟨Γ60, eΓ60⟩ : ∃ z, z = va_up Γ53 q59 (113, 0) := ⟨_, rfl⟩
  rw [← eΓ60] at hG
  have hx61 : ext Γ53 Γ60 := by rw [eΓ60]; exact ext.up z_q59
  have hU : Un Γ60 := by rw [eΓ60]; exact Un.up hU hL55 (by show (113 : Nat) ≠ 0; decide) (fun _ => (nmap (by show (113 : Nat) ≠ 110; decide) (nmap (by show (113 : Nat) ≠ 109; decide) (nmap (by show (113 : Nat) ≠ 108; decide) (nmap (by show (113 : Nat) ≠ 107; decide) (nmap (by show (113 : Nat) ≠ 106; decide) (nmap (by show (113 : Nat) ≠ 105; decide) (nmap (by show (113 : Nat) ≠ 103; decide) (nmap (by show (113 : Nat) ≠ 102; decide) (hn 113 (by decide))))))))))) (fun h => absurd (show sg2 113 = true from h) (by decide))
  have hL62 : tyIn Γ60 ((113, 0) :: ((110, 0) :: ((109, 0) :: ((108, 0) :: ((107, 0) :: ((106, 0) :: ((105, 0) :: ((103, 0) :: ((102, 0) :: L))))))))) := by rw [eΓ60]; exact hL55.up
  have hX63 : ext Γ Γ60 := ext.trans hX56 hx61
  replace t_q3 : ty Γ60 q3 102 := hx61.one t_q3 (by decide)
  replace t_q10 : ty Γ60 q10 103 := hx61.one t_q10 (by decide)
  replace t_q17 : ty Γ60 q17 105 := hx61.one t_q17 (by decide)
  replace t_q24 : ty Γ60 q24 106 := hx61.one t_q24 (by decide)
  replace t_q31 : ty Γ60 q31 107 := hx61.one t_q31 (by decide)
  replace t_q38 : ty Γ60 q38 108 := hx61.one t_q38 (by decide)
  replace t_q45 : ty Γ60 q45 109 := hx61.one t_q45 (by decide)
  replace t_q52 : ty Γ60 q52 110 := hx61.one t_q52 (by decide)
  have t_q59 : ty Γ60 q59 113 := by rw [eΓ60]; unfold ty; rw [va_up_self]
  clear z_q59 s_q59 e_q59
  refine rw_X9 hx hb hA hE hG hS hown hin rfl 13 (by decide) wd_4_143 rfl (ty := .array .byte) (tyX9_ok 13 (by decide)) rfl rfl (Nat.le_of_ble_eq_true rfl) dX9_init_76 (fun H locs hG hS => ?_)
  replace hG : ty_ok (dC, dI) vwCl Γ60 (TP dA Γ60 g) sz ((h0, .inr (9, [.int 0, .int 0, .ref q3, .ref q10, .int 0, .ref q17, .ref q24, .ref q31, .ref q38, .ref q45, .ref q52, .int 0, .int 0, .ref q59, .int 0, .int 0, .int 0, .int 0, .int 0, .int 0, .int 0, .int 0, .int 0, .null, .int 0, .null, .int 0, .null, .null, .null, .null, .null, .null, .null, .null, .null, .null, .int 0, .null, .null, .null, .int 0, .int 0, .int 0, .null, .null, .null])) :: X) H := hG
  refine lv_aload_n hx hb dX9_init_79 rfl (lv_at hl 0 rfl) ?_
  refine ty_iconst hx hb (-1) dX9_init_80 (by decide) (fun x64 h65 => ?_)
  refine rw_X9 hx hb hA hE hG hS hown hin rfl 21 (by decide) wd_4_151 rfl (ty := .int) (tyX9_ok 21 (by decide)) rfl rfl (Nat.le_of_ble_eq_true rfl) dX9_init_81 (fun H locs hG hS => ?_)
  replace hG : ty_ok (dC, dI) vwCl Γ60 (TP dA Γ60 g) sz ((h0, .inr (9, [.int 0, .int 0, .ref q3, .ref q10, .int 0, .ref q17, .ref q24, .ref q31, .ref q38, .ref q45, .ref q52, .int 0, .int 0, .ref q59, .int 0, .int 0, .int 0, .int 0, .int 0, .int 0, .int 0, .int x64, .int 0, .null, .int 0, .null, .int 0, .null, .null, .null, .null, .null, .null, .null, .null, .null, .null, .int 0, .null, .null, .null, .int 0, .int 0, .int 0, .null, .null, .null])) :: X) H := hG
  refine lv_aload_n hx hb dX9_init_84 rfl (lv_at hl 0 rfl) ?_
  refine ty_bipush hx hb (120) dX9_init_85 (by decide) (fun x66 h67 => ?_)
  refine new_I hx hb hA hE hG hS wd_1_70 (N := 120) (by omega) (by decide) (Nat.le_of_ble_eq_true rfl) (Nat.le_of_ble_eq_true rfl) (123, 0) (fun Γ' => by rw [TP_m (k := 23) rfl]; exact ⟨_, rfl, fun j hj => by rw [Nat.zero_add]; exact (z100 123 j (by decide)).symm, fun j hj => ⟨show mLo 23 ≤ (0 : Int32).toInt by decide, show (0 : Int32).toInt ≤ mHi 23 by decide⟩⟩) dX9_init_87 (fun q68 H z_q68 s_q68 e_q68 hG hS => ?_)
  obtain ⟨Γ69, eΓ69⟩ : ∃ z, z = va_up Γ60 q68 (123, 0) := ⟨_, rfl⟩
  rw [← eΓ69] at hG
  have hx70 : ext Γ60 Γ69 := by rw [eΓ69]; exact ext.up z_q68
  have hU : Un Γ69 := by rw [eΓ69]; exact Un.up hU hL62 (by show (123 : Nat) ≠ 0; decide) (fun _ => (nmap (by show (123 : Nat) ≠ 113; decide) (nmap (by show (123 : Nat) ≠ 110; decide) (nmap (by show (123 : Nat) ≠ 109; decide) (nmap (by show (123 : Nat) ≠ 108; decide) (nmap (by show (123 : Nat) ≠ 107; decide) (nmap (by show (123 : Nat) ≠ 106; decide) (nmap (by show (123 : Nat) ≠ 105; decide) (nmap (by show (123 : Nat) ≠ 103; decide) (nmap (by show (123 : Nat) ≠ 102; decide) (hn 123 (by decide)))))))))))) (fun h => absurd (show sg2 123 = true from h) (by decide))
  have hL71 : tyIn Γ69 ((123, 0) :: ((113, 0) :: ((110, 0) :: ((109, 0) :: ((108, 0) :: ((107, 0) :: ((106, 0) :: ((105, 0) :: ((103, 0) :: ((102, 0) :: L)))))))))) := by rw [eΓ69]; exact hL62.up
  have hX72 : ext Γ Γ69 := ext.trans hX63 hx70
  replace t_q3 : ty Γ69 q3 102 := hx70.one t_q3 (by decide)
  replace t_q10 : ty Γ69 q10 103 := hx70.one t_q10 (by decide)
  replace t_q17 : ty Γ69 q17 105 := hx70.one t_q17 (by decide)
  replace t_q24 : ty Γ69 q24 106 := hx70.one t_q24 (by decide)
  replace t_q31 : ty Γ69 q31 107 := hx70.one t_q31 (by decide)
  replace t_q38 : ty Γ69 q38 108 := hx70.one t_q38 (by decide)
  replace t_q45 : ty Γ69 q45 109 := hx70.one t_q45 (by decide)
  replace t_q52 : ty Γ69 q52 110 := hx70.one t_q52 (by decide)
  replace t_q59 : ty Γ69 q59 113 := hx70.one t_q59 (by decide)
  have t_q68 : ty Γ69 q68 123 := by rw [eΓ69]; unfold ty; rw [va_up_self]
  clear z_q68 s_q68 e_q68
  refine rw_X9 hx hb hA hE hG hS hown hin rfl 23 (by decide) wd_4_153 rfl (ty := .array .int) (tyX9_ok 23 (by decide)) rfl rfl (Nat.le_of_ble_eq_true rfl) dX9_init_89 (fun H locs hG hS => ?_)
  replace hG : ty_ok (dC, dI) vwCl Γ69 (TP dA Γ69 g) sz ((h0, .inr (9, [.int 0, .int 0, .ref q3, .ref q10, .int 0, .ref q17, .ref q24, .ref q31, .ref q38, .ref q45, .ref q52, .int 0, .int 0, .ref q59, .int 0, .int 0, .int 0, .int 0, .int 0, .int 0, .int 0, .int x64, .int 0, .ref q68, .int 0, .null, .int 0, .null, .null, .null, .null, .null, .null, .null, .null, .null, .null, .int 0, .null, .null, .null, .int 0, .int 0, .int 0, .null, .null, .null])) :: X) H := hG
  refine lv_aload_n hx hb dX9_init_92 rfl (lv_at hl 0 rfl) ?_
  refine ty_bipush hx hb (120) dX9_init_93 (by decide) (fun x73 h74 => ?_)
  refine new_I hx hb hA hE hG hS wd_1_70 (N := 120) (by omega) (by decide) (Nat.le_of_ble_eq_true rfl) (Nat.le_of_ble_eq_true rfl) (125, 0) (fun Γ' => by rw [TP_m (k := 25) rfl]; exact ⟨_, rfl, fun j hj => by rw [Nat.zero_add]; exact (z100 125 j (by decide)).symm, fun j hj => ⟨show mLo 25 ≤ (0 : Int32).toInt by decide, show (0 : Int32).toInt ≤ mHi 25 by decide⟩⟩) dX9_init_95 (fun q75 H z_q75 s_q75 e_q75 hG hS => ?_)
  obtain ⟨Γ76, eΓ76⟩ : ∃ z, z = va_up Γ69 q75 (125, 0) := ⟨_, rfl⟩
  rw [← eΓ76] at hG
  have hx77 : ext Γ69 Γ76 := by rw [eΓ76]; exact ext.up z_q75
  have hU : Un Γ76 := by rw [eΓ76]; exact Un.up hU hL71 (by show (125 : Nat) ≠ 0; decide) (fun _ => (nmap (by show (125 : Nat) ≠ 123; decide) (nmap (by show (125 : Nat) ≠ 113; decide) (nmap (by show (125 : Nat) ≠ 110; decide) (nmap (by show (125 : Nat) ≠ 109; decide) (nmap (by show (125 : Nat) ≠ 108; decide) (nmap (by show (125 : Nat) ≠ 107; decide) (nmap (by show (125 : Nat) ≠ 106; decide) (nmap (by show (125 : Nat) ≠ 105; decide) (nmap (by show (125 : Nat) ≠ 103; decide) (nmap (by show (125 : Nat) ≠ 102; decide) (hn 125 (by decide))))))))))))) (fun h => absurd (show sg2 125 = true from h) (by decide))
  have hL78 : tyIn Γ76 ((125, 0) :: ((123, 0) :: ((113, 0) :: ((110, 0) :: ((109, 0) :: ((108, 0) :: ((107, 0) :: ((106, 0) :: ((105, 0) :: ((103, 0) :: ((102, 0) :: L))))))))))) := by rw [eΓ76]; exact hL71.up
  have hX79 : ext Γ Γ76 := ext.trans hX72 hx77
  replace t_q3 : ty Γ76 q3 102 := hx77.one t_q3 (by decide)
  replace t_q10 : ty Γ76 q10 103 := hx77.one t_q10 (by decide)
  replace t_q17 : ty Γ76 q17 105 := hx77.one t_q17 (by decide)
  replace t_q24 : ty Γ76 q24 106 := hx77.one t_q24 (by decide)
  replace t_q31 : ty Γ76 q31 107 := hx77.one t_q31 (by decide)
  replace t_q38 : ty Γ76 q38 108 := hx77.one t_q38 (by decide)
  replace t_q45 : ty Γ76 q45 109 := hx77.one t_q45 (by decide)
  replace t_q52 : ty Γ76 q52 110 := hx77.one t_q52 (by decide)
  replace t_q59 : ty Γ76 q59 113 := hx77.one t_q59 (by decide)
  replace t_q68 : ty Γ76 q68 123 := hx77.one t_q68 (by decide)
  have t_q75 : ty Γ76 q75 125 := by rw [eΓ76]; unfold ty; rw [va_up_self]
  clear z_q75 s_q75 e_q75
  refine rw_X9 hx hb hA hE hG hS hown hin rfl 25 (by decide) wd_4_155 rfl (ty := .array .int) (tyX9_ok 25 (by decide)) rfl rfl (Nat.le_of_ble_eq_true rfl) dX9_init_97 (fun H locs hG hS => ?_)
  replace hG : ty_ok (dC, dI) vwCl Γ76 (TP dA Γ76 g) sz ((h0, .inr (9, [.int 0, .int 0, .ref q3, .ref q10, .int 0, .ref q17, .ref q24, .ref q31, .ref q38, .ref q45, .ref q52, .int 0, .int 0, .ref q59, .int 0, .int 0, .int 0, .int 0, .int 0, .int 0, .int 0, .int x64, .int 0, .ref q68, .int 0, .ref q75, .int 0, .null, .null, .null, .null, .null, .null, .null, .null, .null, .null, .int 0, .null, .null, .null, .int 0, .int 0, .int 0, .null, .null, .null])) :: X) H := hG
  refine lv_aload_n hx hb dX9_init_100 rfl (lv_at hl 0 rfl) ?_
  refine ty_sipush hx hb (200) dX9_init_101 (by decide) (fun x80 h81 => ?_)
  refine new_I hx hb hA hE hG hS wd_1_70 (N := 200) (by omega) (by decide) (Nat.le_of_ble_eq_true rfl) (Nat.le_of_ble_eq_true rfl) (127, 0) (fun Γ' => by rw [TP_m (k := 27) rfl]; exact ⟨_, rfl, fun j hj => by rw [Nat.zero_add]; exact (z100 127 j (by decide)).symm, fun j hj => ⟨show mLo 27 ≤ (0 : Int32).toInt by decide, show (0 : Int32).toInt ≤ mHi 27 by decide⟩⟩) dX9_init_104 (fun q82 H z_q82 s_q82 e_q82 hG hS => ?_)
  obtain ⟨Γ83, eΓ83⟩ : ∃ z, z = va_up Γ76 q82 (127, 0) := ⟨_, rfl⟩
  rw [← eΓ83] at hG
  have hx84 : ext Γ76 Γ83 := by rw [eΓ83]; exact ext.up z_q82
  have hU : Un Γ83 := by rw [eΓ83]; exact Un.up hU hL78 (by show (127 : Nat) ≠ 0; decide) (fun _ => (nmap (by show (127 : Nat) ≠ 125; decide) (nmap (by show (127 : Nat) ≠ 123; decide) (nmap (by show (127 : Nat) ≠ 113; decide) (nmap (by show (127 : Nat) ≠ 110; decide) (nmap (by show (127 : Nat) ≠ 109; decide) (nmap (by show (127 : Nat) ≠ 108; decide) (nmap (by show (127 : Nat) ≠ 107; decide) (nmap (by show (127 : Nat) ≠ 106; decide) (nmap (by show (127 : Nat) ≠ 105; decide) (nmap (by show (127 : Nat) ≠ 103; decide) (nmap (by show (127 : Nat) ≠ 102; decide) (hn 127 (by decide)))))))))))))) (fun h => absurd (show sg2 127 = true from h) (by decide))
  have hL85 : tyIn Γ83 ((127, 0) :: ((125, 0) :: ((123, 0) :: ((113, 0) :: ((110, 0) :: ((109, 0) :: ((108, 0) :: ((107, 0) :: ((106, 0) :: ((105, 0) :: ((103, 0) :: ((102, 0) :: L)))))))))))) := by rw [eΓ83]; exact hL78.up
  have hX86 : ext Γ Γ83 := ext.trans hX79 hx84
  replace t_q3 : ty Γ83 q3 102 := hx84.one t_q3 (by decide)
  replace t_q10 : ty Γ83 q10 103 := hx84.one t_q10 (by decide)
  replace t_q17 : ty Γ83 q17 105 := hx84.one t_q17 (by decide)
  replace t_q24 : ty Γ83 q24 106 := hx84.one t_q24 (by decide)
  replace t_q31 : ty Γ83 q31 107 := hx84.one t_q31 (by decide)
  replace t_q38 : ty Γ83 q38 108 := hx84.one t_q38 (by decide)
  replace t_q45 : ty Γ83 q45 109 := hx84.one t_q45 (by decide)
  replace t_q52 : ty Γ83 q52 110 := hx84.one t_q52 (by decide)
  replace t_q59 : ty Γ83 q59 113 := hx84.one t_q59 (by decide)
  replace t_q68 : ty Γ83 q68 123 := hx84.one t_q68 (by decide)
  replace t_q75 : ty Γ83 q75 125 := hx84.one t_q75 (by decide)
  have t_q82 : ty Γ83 q82 127 := by rw [eΓ83]; unfold ty; rw [va_up_self]
  clear z_q82 s_q82 e_q82
  refine rw_X9 hx hb hA hE hG hS hown hin rfl 27 (by decide) wd_4_157 rfl (ty := .array .int) (tyX9_ok 27 (by decide)) rfl rfl (Nat.le_of_ble_eq_true rfl) dX9_init_106 (fun H locs hG hS => ?_)
  replace hG : ty_ok (dC, dI) vwCl Γ83 (TP dA Γ83 g) sz ((h0, .inr (9, [.int 0, .int 0, .ref q3, .ref q10, .int 0, .ref q17, .ref q24, .ref q31, .ref q38, .ref q45, .ref q52, .int 0, .int 0, .ref q59, .int 0, .int 0, .int 0, .int 0, .int 0, .int 0, .int 0, .int x64, .int 0, .ref q68, .int 0, .ref q75, .int 0, .ref q82, .null, .null, .null, .null, .null, .null, .null, .null, .null, .int 0, .null, .null, .null, .int 0, .int 0, .int 0, .null, .null, .null])) :: X) H := hG
  refine lv_aload_n hx hb dX9_init_109 rfl (lv_at hl 0 rfl) ?_
  refine ty_sipush hx hb (200) dX9_init_110 (by decide) (fun x87 h88 => ?_)
  refine new_I hx hb hA hE hG hS wd_1_70 (N := 200) (by omega) (by decide) (Nat.le_of_ble_eq_true rfl) (Nat.le_of_ble_eq_true rfl) (128, 0) (fun Γ' => by rw [TP_m (k := 28) rfl]; exact ⟨_, rfl, fun j hj => by rw [Nat.zero_add]; exact (z100 128 j (by decide)).symm, fun j hj => ⟨show mLo 28 ≤ (0 : Int32).toInt by decide, show (0 : Int32).toInt ≤ mHi 28 by decide⟩⟩) dX9_init_113 (fun q89 H z_q89 s_q89 e_q89 hG hS => ?_)
  obtain ⟨Γ90, eΓ90⟩ : ∃ z, z = va_up Γ83 q89 (128, 0) := ⟨_, rfl⟩
  rw [← eΓ90] at hG
  have hx91 : ext Γ83 Γ90 := by rw [eΓ90]; exact ext.up z_q89
  have hU : Un Γ90 := by rw [eΓ90]; exact Un.up hU hL85 (by show (128 : Nat) ≠ 0; decide) (fun _ => (nmap (by show (128 : Nat) ≠ 127; decide) (nmap (by show (128 : Nat) ≠ 125; decide) (nmap (by show (128 : Nat) ≠ 123; decide) (nmap (by show (128 : Nat) ≠ 113; decide) (nmap (by show (128 : Nat) ≠ 110; decide) (nmap (by show (128 : Nat) ≠ 109; decide) (nmap (by show (128 : Nat) ≠ 108; decide) (nmap (by show (128 : Nat) ≠ 107; decide) (nmap (by show (128 : Nat) ≠ 106; decide) (nmap (by show (128 : Nat) ≠ 105; decide) (nmap (by show (128 : Nat) ≠ 103; decide) (nmap (by show (128 : Nat) ≠ 102; decide) (hn 128 (by decide))))))))))))))) (fun h => absurd (show sg2 128 = true from h) (by decide))
  have hL92 : tyIn Γ90 ((128, 0) :: ((127, 0) :: ((125, 0) :: ((123, 0) :: ((113, 0) :: ((110, 0) :: ((109, 0) :: ((108, 0) :: ((107, 0) :: ((106, 0) :: ((105, 0) :: ((103, 0) :: ((102, 0) :: L))))))))))))) := by rw [eΓ90]; exact hL85.up
  have hX93 : ext Γ Γ90 := ext.trans hX86 hx91
  replace t_q3 : ty Γ90 q3 102 := hx91.one t_q3 (by decide)
  replace t_q10 : ty Γ90 q10 103 := hx91.one t_q10 (by decide)
  replace t_q17 : ty Γ90 q17 105 := hx91.one t_q17 (by decide)
  replace t_q24 : ty Γ90 q24 106 := hx91.one t_q24 (by decide)
  replace t_q31 : ty Γ90 q31 107 := hx91.one t_q31 (by decide)
  replace t_q38 : ty Γ90 q38 108 := hx91.one t_q38 (by decide)
  replace t_q45 : ty Γ90 q45 109 := hx91.one t_q45 (by decide)
  replace t_q52 : ty Γ90 q52 110 := hx91.one t_q52 (by decide)
  replace t_q59 : ty Γ90 q59 113 := hx91.one t_q59 (by decide)
  replace t_q68 : ty Γ90 q68 123 := hx91.one t_q68 (by decide)
  replace t_q75 : ty Γ90 q75 125 := hx91.one t_q75 (by decide)
  replace t_q82 : ty Γ90 q82 127 := hx91.one t_q82 (by decide)
  have t_q89 : ty Γ90 q89 128 := by rw [eΓ90]; unfold ty; rw [va_up_self]
  clear z_q89 s_q89 e_q89
  refine rw_X9 hx hb hA hE hG hS hown hin rfl 28 (by decide) wd_4_158 rfl (ty := .array .int) (tyX9_ok 28 (by decide)) rfl rfl (Nat.le_of_ble_eq_true rfl) dX9_init_115 (fun H locs hG hS => ?_)
  replace hG : ty_ok (dC, dI) vwCl Γ90 (TP dA Γ90 g) sz ((h0, .inr (9, [.int 0, .int 0, .ref q3, .ref q10, .int 0, .ref q17, .ref q24, .ref q31, .ref q38, .ref q45, .ref q52, .int 0, .int 0, .ref q59, .int 0, .int 0, .int 0, .int 0, .int 0, .int 0, .int 0, .int x64, .int 0, .ref q68, .int 0, .ref q75, .int 0, .ref q82, .ref q89, .null, .null, .null, .null, .null, .null, .null, .null, .int 0, .null, .null, .null, .int 0, .int 0, .int 0, .null, .null, .null])) :: X) H := hG
  refine lv_aload_n hx hb dX9_init_118 rfl (lv_at hl 0 rfl) ?_
  refine ty_sipush hx hb (200) dX9_init_119 (by decide) (fun x94 h95 => ?_)
  refine new_I hx hb hA hE hG hS wd_1_70 (N := 200) (by omega) (by decide) (Nat.le_of_ble_eq_true rfl) (Nat.le_of_ble_eq_true rfl) (129, 0) (fun Γ' => by rw [TP_m (k := 29) rfl]; exact ⟨_, rfl, fun j hj => by rw [Nat.zero_add]; exact (z100 129 j (by decide)).symm, fun j hj => ⟨show mLo 29 ≤ (0 : Int32).toInt by decide, show (0 : Int32).toInt ≤ mHi 29 by decide⟩⟩) dX9_init_122 (fun q96 H z_q96 s_q96 e_q96 hG hS => ?_)
  obtain ⟨Γ97, eΓ97⟩ : ∃ z, z = va_up Γ90 q96 (129, 0) := ⟨_, rfl⟩
  rw [← eΓ97] at hG
  have hx98 : ext Γ90 Γ97 := by rw [eΓ97]; exact ext.up z_q96
  have hU : Un Γ97 := by rw [eΓ97]; exact Un.up hU hL92 (by show (129 : Nat) ≠ 0; decide) (fun _ => (nmap (by show (129 : Nat) ≠ 128; decide) (nmap (by show (129 : Nat) ≠ 127; decide) (nmap (by show (129 : Nat) ≠ 125; decide) (nmap (by show (129 : Nat) ≠ 123; decide) (nmap (by show (129 : Nat) ≠ 113; decide) (nmap (by show (129 : Nat) ≠ 110; decide) (nmap (by show (129 : Nat) ≠ 109; decide) (nmap (by show (129 : Nat) ≠ 108; decide) (nmap (by show (129 : Nat) ≠ 107; decide) (nmap (by show (129 : Nat) ≠ 106; decide) (nmap (by show (129 : Nat) ≠ 105; decide) (nmap (by show (129 : Nat) ≠ 103; decide) (nmap (by show (129 : Nat) ≠ 102; decide) (hn 129 (by decide)))))))))))))))) (fun h => absurd (show sg2 129 = true from h) (by decide))
  have hL99 : tyIn Γ97 ((129, 0) :: ((128, 0) :: ((127, 0) :: ((125, 0) :: ((123, 0) :: ((113, 0) :: ((110, 0) :: ((109, 0) :: ((108, 0) :: ((107, 0) :: ((106, 0) :: ((105, 0) :: ((103, 0) :: ((102, 0) :: L)))))))))))))) := by rw [eΓ97]; exact hL92.up
  have hX100 : ext Γ Γ97 := ext.trans hX93 hx98
  replace t_q3 : ty Γ97 q3 102 := hx98.one t_q3 (by decide)
  replace t_q10 : ty Γ97 q10 103 := hx98.one t_q10 (by decide)
  replace t_q17 : ty Γ97 q17 105 := hx98.one t_q17 (by decide)
  replace t_q24 : ty Γ97 q24 106 := hx98.one t_q24 (by decide)
  replace t_q31 : ty Γ97 q31 107 := hx98.one t_q31 (by decide)
  replace t_q38 : ty Γ97 q38 108 := hx98.one t_q38 (by decide)
  replace t_q45 : ty Γ97 q45 109 := hx98.one t_q45 (by decide)
  replace t_q52 : ty Γ97 q52 110 := hx98.one t_q52 (by decide)
  replace t_q59 : ty Γ97 q59 113 := hx98.one t_q59 (by decide)
  replace t_q68 : ty Γ97 q68 123 := hx98.one t_q68 (by decide)
  replace t_q75 : ty Γ97 q75 125 := hx98.one t_q75 (by decide)
  replace t_q82 : ty Γ97 q82 127 := hx98.one t_q82 (by decide)
  replace t_q89 : ty Γ97 q89 128 := hx98.one t_q89 (by decide)
  have t_q96 : ty Γ97 q96 129 := by rw [eΓ97]; unfold ty; rw [va_up_self]
  clear z_q96 s_q96 e_q96
  refine rw_X9 hx hb hA hE hG hS hown hin rfl 29 (by decide) wd_4_159 rfl (ty := .array .int) (tyX9_ok 29 (by decide)) rfl rfl (Nat.le_of_ble_eq_true rfl) dX9_init_124 (fun H locs hG hS => ?_)
  replace hG : ty_ok (dC, dI) vwCl Γ97 (TP dA Γ97 g) sz ((h0, .inr (9, [.int 0, .int 0, .ref q3, .ref q10, .int 0, .ref q17, .ref q24, .ref q31, .ref q38, .ref q45, .ref q52, .int 0, .int 0, .ref q59, .int 0, .int 0, .int 0, .int 0, .int 0, .int 0, .int 0, .int x64, .int 0, .ref q68, .int 0, .ref q75, .int 0, .ref q82, .ref q89, .ref q96, .null, .null, .null, .null, .null, .null, .null, .int 0, .null, .null, .null, .int 0, .int 0, .int 0, .null, .null, .null])) :: X) H := hG
  refine lv_aload_n hx hb dX9_init_127 rfl (lv_at hl 0 rfl) ?_
  refine ty_sipush hx hb (200) dX9_init_128 (by decide) (fun x101 h102 => ?_)
  refine new_I hx hb hA hE hG hS wd_1_70 (N := 200) (by omega) (by decide) (Nat.le_of_ble_eq_true rfl) (Nat.le_of_ble_eq_true rfl) (130, 0) (fun Γ' => by rw [TP_m (k := 30) rfl]; exact ⟨_, rfl, fun j hj => by rw [Nat.zero_add]; exact (z100 130 j (by decide)).symm, fun j hj => ⟨show mLo 30 ≤ (0 : Int32).toInt by decide, show (0 : Int32).toInt ≤ mHi 30 by decide⟩⟩) dX9_init_131 (fun q103 H z_q103 s_q103 e_q103 hG hS => ?_)
  obtain ⟨Γ104, eΓ104⟩ : ∃ z, z = va_up Γ97 q103 (130, 0) := ⟨_, rfl⟩
  rw [← eΓ104] at hG
  have hx105 : ext Γ97 Γ104 := by rw [eΓ104]; exact ext.up z_q103
  have hU : Un Γ104 := by rw [eΓ104]; exact Un.up hU hL99 (by show (130 : Nat) ≠ 0; decide) (fun _ => (nmap (by show (130 : Nat) ≠ 129; decide) (nmap (by show (130 : Nat) ≠ 128; decide) (nmap (by show (130 : Nat) ≠ 127; decide) (nmap (by show (130 : Nat) ≠ 125; decide) (nmap (by show (130 : Nat) ≠ 123; decide) (nmap (by show (130 : Nat) ≠ 113; decide) (nmap (by show (130 : Nat) ≠ 110; decide) (nmap (by show (130 : Nat) ≠ 109; decide) (nmap (by show (130 : Nat) ≠ 108; decide) (nmap (by show (130 : Nat) ≠ 107; decide) (nmap (by show (130 : Nat) ≠ 106; decide) (nmap (by show (130 : Nat) ≠ 105; decide) (nmap (by show (130 : Nat) ≠ 103; decide) (nmap (by show (130 : Nat) ≠ 102; decide) (hn 130 (by decide))))))))))))))))) (fun h => absurd (show sg2 130 = true from h) (by decide))
  have hL106 : tyIn Γ104 ((130, 0) :: ((129, 0) :: ((128, 0) :: ((127, 0) :: ((125, 0) :: ((123, 0) :: ((113, 0) :: ((110, 0) :: ((109, 0) :: ((108, 0) :: ((107, 0) :: ((106, 0) :: ((105, 0) :: ((103, 0) :: ((102, 0) :: L))))))))))))))) := by rw [eΓ104]; exact hL99.up
  have hX107 : ext Γ Γ104 := ext.trans hX100 hx105
  replace t_q3 : ty Γ104 q3 102 := hx105.one t_q3 (by decide)
  replace t_q10 : ty Γ104 q10 103 := hx105.one t_q10 (by decide)
  replace t_q17 : ty Γ104 q17 105 := hx105.one t_q17 (by decide)
  replace t_q24 : ty Γ104 q24 106 := hx105.one t_q24 (by decide)
  replace t_q31 : ty Γ104 q31 107 := hx105.one t_q31 (by decide)
  replace t_q38 : ty Γ104 q38 108 := hx105.one t_q38 (by decide)
  replace t_q45 : ty Γ104 q45 109 := hx105.one t_q45 (by decide)
  replace t_q52 : ty Γ104 q52 110 := hx105.one t_q52 (by decide)
  replace t_q59 : ty Γ104 q59 113 := hx105.one t_q59 (by decide)
  replace t_q68 : ty Γ104 q68 123 := hx105.one t_q68 (by decide)
  replace t_q75 : ty Γ104 q75 125 := hx105.one t_q75 (by decide)
  replace t_q82 : ty Γ104 q82 127 := hx105.one t_q82 (by decide)
  replace t_q89 : ty Γ104 q89 128 := hx105.one t_q89 (by decide)
  replace t_q96 : ty Γ104 q96 129 := hx105.one t_q96 (by decide)
  have t_q103 : ty Γ104 q103 130 := by rw [eΓ104]; unfold ty; rw [va_up_self]
  clear z_q103 s_q103 e_q103
  refine rw_X9 hx hb hA hE hG hS hown hin rfl 30 (by decide) wd_4_160 rfl (ty := .array .int) (tyX9_ok 30 (by decide)) rfl rfl (Nat.le_of_ble_eq_true rfl) dX9_init_133 (fun H locs hG hS => ?_)
  replace hG : ty_ok (dC, dI) vwCl Γ104 (TP dA Γ104 g) sz ((h0, .inr (9, [.int 0, .int 0, .ref q3, .ref q10, .int 0, .ref q17, .ref q24, .ref q31, .ref q38, .ref q45, .ref q52, .int 0, .int 0, .ref q59, .int 0, .int 0, .int 0, .int 0, .int 0, .int 0, .int 0, .int x64, .int 0, .ref q68, .int 0, .ref q75, .int 0, .ref q82, .ref q89, .ref q96, .ref q103, .null, .null, .null, .null, .null, .null, .int 0, .null, .null, .null, .int 0, .int 0, .int 0, .null, .null, .null])) :: X) H := hG
  refine lv_aload_n hx hb dX9_init_136 rfl (lv_at hl 0 rfl) ?_
  refine ty_sipush hx hb (200) dX9_init_137 (by decide) (fun x108 h109 => ?_)
  refine new_I hx hb hA hE hG hS wd_1_70 (N := 200) (by omega) (by decide) (Nat.le_of_ble_eq_true rfl) (Nat.le_of_ble_eq_true rfl) (131, 0) (fun Γ' => by rw [TP_m (k := 31) rfl]; exact ⟨_, rfl, fun j hj => by rw [Nat.zero_add]; exact (z100 131 j (by decide)).symm, fun j hj => ⟨show mLo 31 ≤ (0 : Int32).toInt by decide, show (0 : Int32).toInt ≤ mHi 31 by decide⟩⟩) dX9_init_140 (fun q110 H z_q110 s_q110 e_q110 hG hS => ?_)
  obtain ⟨Γ111, eΓ111⟩ : ∃ z, z = va_up Γ104 q110 (131, 0) := ⟨_, rfl⟩
  rw [← eΓ111] at hG
  have hx112 : ext Γ104 Γ111 := by rw [eΓ111]; exact ext.up z_q110
  have hU : Un Γ111 := by rw [eΓ111]; exact Un.up hU hL106 (by show (131 : Nat) ≠ 0; decide) (fun _ => (nmap (by show (131 : Nat) ≠ 130; decide) (nmap (by show (131 : Nat) ≠ 129; decide) (nmap (by show (131 : Nat) ≠ 128; decide) (nmap (by show (131 : Nat) ≠ 127; decide) (nmap (by show (131 : Nat) ≠ 125; decide) (nmap (by show (131 : Nat) ≠ 123; decide) (nmap (by show (131 : Nat) ≠ 113; decide) (nmap (by show (131 : Nat) ≠ 110; decide) (nmap (by show (131 : Nat) ≠ 109; decide) (nmap (by show (131 : Nat) ≠ 108; decide) (nmap (by show (131 : Nat) ≠ 107; decide) (nmap (by show (131 : Nat) ≠ 106; decide) (nmap (by show (131 : Nat) ≠ 105; decide) (nmap (by show (131 : Nat) ≠ 103; decide) (nmap (by show (131 : Nat) ≠ 102; decide) (hn 131 (by decide)))))))))))))))))) (fun h => absurd (show sg2 131 = true from h) (by decide))
  have hL113 : tyIn Γ111 ((131, 0) :: ((130, 0) :: ((129, 0) :: ((128, 0) :: ((127, 0) :: ((125, 0) :: ((123, 0) :: ((113, 0) :: ((110, 0) :: ((109, 0) :: ((108, 0) :: ((107, 0) :: ((106, 0) :: ((105, 0) :: ((103, 0) :: ((102, 0) :: L)))))))))))))))) := by rw [eΓ111]; exact hL106.up
  have hX114 : ext Γ Γ111 := ext.trans hX107 hx112
  replace t_q3 : ty Γ111 q3 102 := hx112.one t_q3 (by decide)
  replace t_q10 : ty Γ111 q10 103 := hx112.one t_q10 (by decide)
  replace t_q17 : ty Γ111 q17 105 := hx112.one t_q17 (by decide)
  replace t_q24 : ty Γ111 q24 106 := hx112.one t_q24 (by decide)
  replace t_q31 : ty Γ111 q31 107 := hx112.one t_q31 (by decide)
  replace t_q38 : ty Γ111 q38 108 := hx112.one t_q38 (by decide)
  replace t_q45 : ty Γ111 q45 109 := hx112.one t_q45 (by decide)
  replace t_q52 : ty Γ111 q52 110 := hx112.one t_q52 (by decide)
  replace t_q59 : ty Γ111 q59 113 := hx112.one t_q59 (by decide)
  replace t_q68 : ty Γ111 q68 123 := hx112.one t_q68 (by decide)
  replace t_q75 : ty Γ111 q75 125 := hx112.one t_q75 (by decide)
  replace t_q82 : ty Γ111 q82 127 := hx112.one t_q82 (by decide)
  replace t_q89 : ty Γ111 q89 128 := hx112.one t_q89 (by decide)
  replace t_q96 : ty Γ111 q96 129 := hx112.one t_q96 (by decide)
  replace t_q103 : ty Γ111 q103 130 := hx112.one t_q103 (by decide)
  have t_q110 : ty Γ111 q110 131 := by rw [eΓ111]; unfold ty; rw [va_up_self]
  clear z_q110 s_q110 e_q110
  refine rw_X9 hx hb hA hE hG hS hown hin rfl 31 (by decide) wd_4_161 rfl (ty := .array .int) (tyX9_ok 31 (by decide)) rfl rfl (Nat.le_of_ble_eq_true rfl) dX9_init_142 (fun H locs hG hS => ?_)
  replace hG : ty_ok (dC, dI) vwCl Γ111 (TP dA Γ111 g) sz ((h0, .inr (9, [.int 0, .int 0, .ref q3, .ref q10, .int 0, .ref q17, .ref q24, .ref q31, .ref q38, .ref q45, .ref q52, .int 0, .int 0, .ref q59, .int 0, .int 0, .int 0, .int 0, .int 0, .int 0, .int 0, .int x64, .int 0, .ref q68, .int 0, .ref q75, .int 0, .ref q82, .ref q89, .ref q96, .ref q103, .ref q110, .null, .null, .null, .null, .null, .int 0, .null, .null, .null, .int 0, .int 0, .int 0, .null, .null, .null])) :: X) H := hG
  refine lv_aload_n hx hb dX9_init_145 rfl (lv_at hl 0 rfl) ?_
  refine ty_sipush hx hb (200) dX9_init_146 (by decide) (fun x115 h116 => ?_)
  refine new_I hx hb hA hE hG hS wd_1_70 (N := 200) (by omega) (by decide) (Nat.le_of_ble_eq_true rfl) (Nat.le_of_ble_eq_true rfl) (132, 0) (fun Γ' => by rw [TP_m (k := 32) rfl]; exact ⟨_, rfl, fun j hj => by rw [Nat.zero_add]; exact (z100 132 j (by decide)).symm, fun j hj => ⟨show mLo 32 ≤ (0 : Int32).toInt by decide, show (0 : Int32).toInt ≤ mHi 32 by decide⟩⟩) dX9_init_149 (fun q117 H z_q117 s_q117 e_q117 hG hS => ?_)
  obtain ⟨Γ118, eΓ118⟩ : ∃ z, z = va_up Γ111 q117 (132, 0) := ⟨_, rfl⟩
  rw [← eΓ118] at hG
  have hx119 : ext Γ111 Γ118 := by rw [eΓ118]; exact ext.up z_q117
  have hU : Un Γ118 := by rw [eΓ118]; exact Un.up hU hL113 (by show (132 : Nat) ≠ 0; decide) (fun _ => (nmap (by show (132 : Nat) ≠ 131; decide) (nmap (by show (132 : Nat) ≠ 130; decide) (nmap (by show (132 : Nat) ≠ 129; decide) (nmap (by show (132 : Nat) ≠ 128; decide) (nmap (by show (132 : Nat) ≠ 127; decide) (nmap (by show (132 : Nat) ≠ 125; decide) (nmap (by show (132 : Nat) ≠ 123; decide) (nmap (by show (132 : Nat) ≠ 113; decide) (nmap (by show (132 : Nat) ≠ 110; decide) (nmap (by show (132 : Nat) ≠ 109; decide) (nmap (by show (132 : Nat) ≠ 108; decide) (nmap (by show (132 : Nat) ≠ 107; decide) (nmap (by show (132 : Nat) ≠ 106; decide) (nmap (by show (132 : Nat) ≠ 105; decide) (nmap (by show (132 : Nat) ≠ 103; decide) (nmap (by show (132 : Nat) ≠ 102; decide) (hn 132 (by decide))))))))))))))))))) (fun h => absurd (show sg2 132 = true from h) (by decide))
  have hL120 : tyIn Γ118 ((132, 0) :: ((131, 0) :: ((130, 0) :: ((129, 0) :: ((128, 0) :: ((127, 0) :: ((125, 0) :: ((123, 0) :: ((113, 0) :: ((110, 0) :: ((109, 0) :: ((108, 0) :: ((107, 0) :: ((106, 0) :: ((105, 0) :: ((103, 0) :: ((102, 0) :: L))))))))))))))))) := by rw [eΓ118]; exact hL113.up
  have hX121 : ext Γ Γ118 := ext.trans hX114 hx119
  replace t_q3 : ty Γ118 q3 102 := hx119.one t_q3 (by decide)
  replace t_q10 : ty Γ118 q10 103 := hx119.one t_q10 (by decide)
  replace t_q17 : ty Γ118 q17 105 := hx119.one t_q17 (by decide)
  replace t_q24 : ty Γ118 q24 106 := hx119.one t_q24 (by decide)
  replace t_q31 : ty Γ118 q31 107 := hx119.one t_q31 (by decide)
  replace t_q38 : ty Γ118 q38 108 := hx119.one t_q38 (by decide)
  replace t_q45 : ty Γ118 q45 109 := hx119.one t_q45 (by decide)
  replace t_q52 : ty Γ118 q52 110 := hx119.one t_q52 (by decide)
  replace t_q59 : ty Γ118 q59 113 := hx119.one t_q59 (by decide)
  replace t_q68 : ty Γ118 q68 123 := hx119.one t_q68 (by decide)
  replace t_q75 : ty Γ118 q75 125 := hx119.one t_q75 (by decide)
  replace t_q82 : ty Γ118 q82 127 := hx119.one t_q82 (by decide)
  replace t_q89 : ty Γ118 q89 128 := hx119.one t_q89 (by decide)
  replace t_q96 : ty Γ118 q96 129 := hx119.one t_q96 (by decide)
  replace t_q103 : ty Γ118 q103 130 := hx119.one t_q103 (by decide)
  replace t_q110 : ty Γ118 q110 131 := hx119.one t_q110 (by decide)
  have t_q117 : ty Γ118 q117 132 := by rw [eΓ118]; unfold ty; rw [va_up_self]
  clear z_q117 s_q117 e_q117
  refine rw_X9 hx hb hA hE hG hS hown hin rfl 32 (by decide) wd_4_162 rfl (ty := .array .int) (tyX9_ok 32 (by decide)) rfl rfl (Nat.le_of_ble_eq_true rfl) dX9_init_151 (fun H locs hG hS => ?_)
  replace hG : ty_ok (dC, dI) vwCl Γ118 (TP dA Γ118 g) sz ((h0, .inr (9, [.int 0, .int 0, .ref q3, .ref q10, .int 0, .ref q17, .ref q24, .ref q31, .ref q38, .ref q45, .ref q52, .int 0, .int 0, .ref q59, .int 0, .int 0, .int 0, .int 0, .int 0, .int 0, .int 0, .int x64, .int 0, .ref q68, .int 0, .ref q75, .int 0, .ref q82, .ref q89, .ref q96, .ref q103, .ref q110, .ref q117, .null, .null, .null, .null, .int 0, .null, .null, .null, .int 0, .int 0, .int 0, .null, .null, .null])) :: X) H := hG
  refine lv_aload_n hx hb dX9_init_154 rfl (lv_at hl 0 rfl) ?_
  refine ty_sipush hx hb (200) dX9_init_155 (by decide) (fun x122 h123 => ?_)
  refine new_I hx hb hA hE hG hS wd_1_70 (N := 200) (by omega) (by decide) (Nat.le_of_ble_eq_true rfl) (Nat.le_of_ble_eq_true rfl) (133, 0) (fun Γ' => by rw [TP_m (k := 33) rfl]; exact ⟨_, rfl, fun j hj => by rw [Nat.zero_add]; exact (z100 133 j (by decide)).symm, fun j hj => ⟨show mLo 33 ≤ (0 : Int32).toInt by decide, show (0 : Int32).toInt ≤ mHi 33 by decide⟩⟩) dX9_init_158 (fun q124 H z_q124 s_q124 e_q124 hG hS => ?_)
  obtain ⟨Γ125, eΓ125⟩ : ∃ z, z = va_up Γ118 q124 (133, 0) := ⟨_, rfl⟩
  rw [← eΓ125] at hG
  have hx126 : ext Γ118 Γ125 := by rw [eΓ125]; exact ext.up z_q124
  have hU : Un Γ125 := by rw [eΓ125]; exact Un.up hU hL120 (by show (133 : Nat) ≠ 0; decide) (fun _ => (nmap (by show (133 : Nat) ≠ 132; decide) (nmap (by show (133 : Nat) ≠ 131; decide) (nmap (by show (133 : Nat) ≠ 130; decide) (nmap (by show (133 : Nat) ≠ 129; decide) (nmap (by show (133 : Nat) ≠ 128; decide) (nmap (by show (133 : Nat) ≠ 127; decide) (nmap (by show (133 : Nat) ≠ 125; decide) (nmap (by show (133 : Nat) ≠ 123; decide) (nmap (by show (133 : Nat) ≠ 113; decide) (nmap (by show (133 : Nat) ≠ 110; decide) (nmap (by show (133 : Nat) ≠ 109; decide) (nmap (by show (133 : Nat) ≠ 108; decide) (nmap (by show (133 : Nat) ≠ 107; decide) (nmap (by show (133 : Nat) ≠ 106; decide) (nmap (by show (133 : Nat) ≠ 105; decide) (nmap (by show (133 : Nat) ≠ 103; decide) (nmap (by show (133 : Nat) ≠ 102; decide) (hn 133 (by decide)))))))))))))))))))) (fun h => absurd (show sg2 133 = true from h) (by decide))
  have hL127 : tyIn Γ125 ((133, 0) :: ((132, 0) :: ((131, 0) :: ((130, 0) :: ((129, 0) :: ((128, 0) :: ((127, 0) :: ((125, 0) :: ((123, 0) :: ((113, 0) :: ((110, 0) :: ((109, 0) :: ((108, 0) :: ((107, 0) :: ((106, 0) :: ((105, 0) :: ((103, 0) :: ((102, 0) :: L)))))))))))))))))) := by rw [eΓ125]; exact hL120.up
  have hX128 : ext Γ Γ125 := ext.trans hX121 hx126
  replace t_q3 : ty Γ125 q3 102 := hx126.one t_q3 (by decide)
  replace t_q10 : ty Γ125 q10 103 := hx126.one t_q10 (by decide)
  replace t_q17 : ty Γ125 q17 105 := hx126.one t_q17 (by decide)
  replace t_q24 : ty Γ125 q24 106 := hx126.one t_q24 (by decide)
  replace t_q31 : ty Γ125 q31 107 := hx126.one t_q31 (by decide)
  replace t_q38 : ty Γ125 q38 108 := hx126.one t_q38 (by decide)
  replace t_q45 : ty Γ125 q45 109 := hx126.one t_q45 (by decide)
  replace t_q52 : ty Γ125 q52 110 := hx126.one t_q52 (by decide)
  replace t_q59 : ty Γ125 q59 113 := hx126.one t_q59 (by decide)
  replace t_q68 : ty Γ125 q68 123 := hx126.one t_q68 (by decide)
  replace t_q75 : ty Γ125 q75 125 := hx126.one t_q75 (by decide)
  replace t_q82 : ty Γ125 q82 127 := hx126.one t_q82 (by decide)
  replace t_q89 : ty Γ125 q89 128 := hx126.one t_q89 (by decide)
  replace t_q96 : ty Γ125 q96 129 := hx126.one t_q96 (by decide)
  replace t_q103 : ty Γ125 q103 130 := hx126.one t_q103 (by decide)
  replace t_q110 : ty Γ125 q110 131 := hx126.one t_q110 (by decide)
  replace t_q117 : ty Γ125 q117 132 := hx126.one t_q117 (by decide)
  have t_q124 : ty Γ125 q124 133 := by rw [eΓ125]; unfold ty; rw [va_up_self]
  clear z_q124 s_q124 e_q124
  refine rw_X9 hx hb hA hE hG hS hown hin rfl 33 (by decide) wd_4_163 rfl (ty := .array .int) (tyX9_ok 33 (by decide)) rfl rfl (Nat.le_of_ble_eq_true rfl) dX9_init_160 (fun H locs hG hS => ?_)
  replace hG : ty_ok (dC, dI) vwCl Γ125 (TP dA Γ125 g) sz ((h0, .inr (9, [.int 0, .int 0, .ref q3, .ref q10, .int 0, .ref q17, .ref q24, .ref q31, .ref q38, .ref q45, .ref q52, .int 0, .int 0, .ref q59, .int 0, .int 0, .int 0, .int 0, .int 0, .int 0, .int 0, .int x64, .int 0, .ref q68, .int 0, .ref q75, .int 0, .ref q82, .ref q89, .ref q96, .ref q103, .ref q110, .ref q117, .ref q124, .null, .null, .null, .int 0, .null, .null, .null, .int 0, .int 0, .int 0, .null, .null, .null])) :: X) H := hG
  refine lv_aload_n hx hb dX9_init_163 rfl (lv_at hl 0 rfl) ?_
  refine ty_sipush hx hb (200) dX9_init_164 (by decide) (fun x129 h130 => ?_)
  refine new_I hx hb hA hE hG hS wd_1_70 (N := 200) (by omega) (by decide) (Nat.le_of_ble_eq_true rfl) (Nat.le_of_ble_eq_true rfl) (134, 0) (fun Γ' => by rw [TP_m (k := 34) rfl]; exact ⟨_, rfl, fun j hj => by rw [Nat.zero_add]; exact (z100 134 j (by decide)).symm, fun j hj => ⟨show mLo 34 ≤ (0 : Int32).toInt by decide, show (0 : Int32).toInt ≤ mHi 34 by decide⟩⟩) dX9_init_167 (fun q131 H z_q131 s_q131 e_q131 hG hS => ?_)
  obtain ⟨Γ132, eΓ132⟩ : ∃ z, z = va_up Γ125 q131 (134, 0) := ⟨_, rfl⟩
  rw [← eΓ132] at hG
  have hx133 : ext Γ125 Γ132 := by rw [eΓ132]; exact ext.up z_q131
  have hU : Un Γ132 := by rw [eΓ132]; exact Un.up hU hL127 (by show (134 : Nat) ≠ 0; decide) (fun _ => (nmap (by show (134 : Nat) ≠ 133; decide) (nmap (by show (134 : Nat) ≠ 132; decide) (nmap (by show (134 : Nat) ≠ 131; decide) (nmap (by show (134 : Nat) ≠ 130; decide) (nmap (by show (134 : Nat) ≠ 129; decide) (nmap (by show (134 : Nat) ≠ 128; decide) (nmap (by show (134 : Nat) ≠ 127; decide) (nmap (by show (134 : Nat) ≠ 125; decide) (nmap (by show (134 : Nat) ≠ 123; decide) (nmap (by show (134 : Nat) ≠ 113; decide) (nmap (by show (134 : Nat) ≠ 110; decide) (nmap (by show (134 : Nat) ≠ 109; decide) (nmap (by show (134 : Nat) ≠ 108; decide) (nmap (by show (134 : Nat) ≠ 107; decide) (nmap (by show (134 : Nat) ≠ 106; decide) (nmap (by show (134 : Nat) ≠ 105; decide) (nmap (by show (134 : Nat) ≠ 103; decide) (nmap (by show (134 : Nat) ≠ 102; decide) (hn 134 (by decide))))))))))))))))))))) (fun h => absurd (show sg2 134 = true from h) (by decide))
  have hL134 : tyIn Γ132 ((134, 0) :: ((133, 0) :: ((132, 0) :: ((131, 0) :: ((130, 0) :: ((129, 0) :: ((128, 0) :: ((127, 0) :: ((125, 0) :: ((123, 0) :: ((113, 0) :: ((110, 0) :: ((109, 0) :: ((108, 0) :: ((107, 0) :: ((106, 0) :: ((105, 0) :: ((103, 0) :: ((102, 0) :: L))))))))))))))))))) := by rw [eΓ132]; exact hL127.up
  have hX135 : ext Γ Γ132 := ext.trans hX128 hx133
  replace t_q3 : ty Γ132 q3 102 := hx133.one t_q3 (by decide)
  replace t_q10 : ty Γ132 q10 103 := hx133.one t_q10 (by decide)
  replace t_q17 : ty Γ132 q17 105 := hx133.one t_q17 (by decide)
  replace t_q24 : ty Γ132 q24 106 := hx133.one t_q24 (by decide)
  replace t_q31 : ty Γ132 q31 107 := hx133.one t_q31 (by decide)
  replace t_q38 : ty Γ132 q38 108 := hx133.one t_q38 (by decide)
  replace t_q45 : ty Γ132 q45 109 := hx133.one t_q45 (by decide)
  replace t_q52 : ty Γ132 q52 110 := hx133.one t_q52 (by decide)
  replace t_q59 : ty Γ132 q59 113 := hx133.one t_q59 (by decide)
  replace t_q68 : ty Γ132 q68 123 := hx133.one t_q68 (by decide)
  replace t_q75 : ty Γ132 q75 125 := hx133.one t_q75 (by decide)
  replace t_q82 : ty Γ132 q82 127 := hx133.one t_q82 (by decide)
  replace t_q89 : ty Γ132 q89 128 := hx133.one t_q89 (by decide)
  replace t_q96 : ty Γ132 q96 129 := hx133.one t_q96 (by decide)
  replace t_q103 : ty Γ132 q103 130 := hx133.one t_q103 (by decide)
  replace t_q110 : ty Γ132 q110 131 := hx133.one t_q110 (by decide)
  replace t_q117 : ty Γ132 q117 132 := hx133.one t_q117 (by decide)
  replace t_q124 : ty Γ132 q124 133 := hx133.one t_q124 (by decide)
  have t_q131 : ty Γ132 q131 134 := by rw [eΓ132]; unfold ty; rw [va_up_self]
  clear z_q131 s_q131 e_q131
  refine rw_X9 hx hb hA hE hG hS hown hin rfl 34 (by decide) wd_4_164 rfl (ty := .array .int) (tyX9_ok 34 (by decide)) rfl rfl (Nat.le_of_ble_eq_true rfl) dX9_init_169 (fun H locs hG hS => ?_)
  replace hG : ty_ok (dC, dI) vwCl Γ132 (TP dA Γ132 g) sz ((h0, .inr (9, [.int 0, .int 0, .ref q3, .ref q10, .int 0, .ref q17, .ref q24, .ref q31, .ref q38, .ref q45, .ref q52, .int 0, .int 0, .ref q59, .int 0, .int 0, .int 0, .int 0, .int 0, .int 0, .int 0, .int x64, .int 0, .ref q68, .int 0, .ref q75, .int 0, .ref q82, .ref q89, .ref q96, .ref q103, .ref q110, .ref q117, .ref q124, .ref q131, .null, .null, .int 0, .null, .null, .null, .int 0, .int 0, .int 0, .null, .null, .null])) :: X) H := hG
  refine lv_aload_n hx hb dX9_init_172 rfl (lv_at hl 0 rfl) ?_
  refine ty_sipush hx hb (840) dX9_init_173 (by decide) (fun x136 h137 => ?_)
  refine new_I hx hb hA hE hG hS wd_1_70 (N := 840) (by omega) (by decide) (Nat.le_of_ble_eq_true rfl) (Nat.le_of_ble_eq_true rfl) (135, 0) (fun Γ' => by rw [TP_m (k := 35) rfl]; exact ⟨_, rfl, fun j hj => by rw [Nat.zero_add]; exact (z100 135 j (by decide)).symm, fun j hj => ⟨show mLo 35 ≤ (0 : Int32).toInt by decide, show (0 : Int32).toInt ≤ mHi 35 by decide⟩⟩) dX9_init_176 (fun q138 H z_q138 s_q138 e_q138 hG hS => ?_)
  obtain ⟨Γ139, eΓ139⟩ : ∃ z, z = va_up Γ132 q138 (135, 0) := ⟨_, rfl⟩
  rw [← eΓ139] at hG
  have hx140 : ext Γ132 Γ139 := by rw [eΓ139]; exact ext.up z_q138
  have hU : Un Γ139 := by rw [eΓ139]; exact Un.up hU hL134 (by show (135 : Nat) ≠ 0; decide) (fun _ => (nmap (by show (135 : Nat) ≠ 134; decide) (nmap (by show (135 : Nat) ≠ 133; decide) (nmap (by show (135 : Nat) ≠ 132; decide) (nmap (by show (135 : Nat) ≠ 131; decide) (nmap (by show (135 : Nat) ≠ 130; decide) (nmap (by show (135 : Nat) ≠ 129; decide) (nmap (by show (135 : Nat) ≠ 128; decide) (nmap (by show (135 : Nat) ≠ 127; decide) (nmap (by show (135 : Nat) ≠ 125; decide) (nmap (by show (135 : Nat) ≠ 123; decide) (nmap (by show (135 : Nat) ≠ 113; decide) (nmap (by show (135 : Nat) ≠ 110; decide) (nmap (by show (135 : Nat) ≠ 109; decide) (nmap (by show (135 : Nat) ≠ 108; decide) (nmap (by show (135 : Nat) ≠ 107; decide) (nmap (by show (135 : Nat) ≠ 106; decide) (nmap (by show (135 : Nat) ≠ 105; decide) (nmap (by show (135 : Nat) ≠ 103; decide) (nmap (by show (135 : Nat) ≠ 102; decide) (hn 135 (by decide)))))))))))))))))))))) (fun h => absurd (show sg2 135 = true from h) (by decide))
  have hL141 : tyIn Γ139 ((135, 0) :: ((134, 0) :: ((133, 0) :: ((132, 0) :: ((131, 0) :: ((130, 0) :: ((129, 0) :: ((128, 0) :: ((127, 0) :: ((125, 0) :: ((123, 0) :: ((113, 0) :: ((110, 0) :: ((109, 0) :: ((108, 0) :: ((107, 0) :: ((106, 0) :: ((105, 0) :: ((103, 0) :: ((102, 0) :: L)))))))))))))))))))) := by rw [eΓ139]; exact hL134.up
  have hX142 : ext Γ Γ139 := ext.trans hX135 hx140
  replace t_q3 : ty Γ139 q3 102 := hx140.one t_q3 (by decide)
  replace t_q10 : ty Γ139 q10 103 := hx140.one t_q10 (by decide)
  replace t_q17 : ty Γ139 q17 105 := hx140.one t_q17 (by decide)
  replace t_q24 : ty Γ139 q24 106 := hx140.one t_q24 (by decide)
  replace t_q31 : ty Γ139 q31 107 := hx140.one t_q31 (by decide)
  replace t_q38 : ty Γ139 q38 108 := hx140.one t_q38 (by decide)
  replace t_q45 : ty Γ139 q45 109 := hx140.one t_q45 (by decide)
  replace t_q52 : ty Γ139 q52 110 := hx140.one t_q52 (by decide)
  replace t_q59 : ty Γ139 q59 113 := hx140.one t_q59 (by decide)
  replace t_q68 : ty Γ139 q68 123 := hx140.one t_q68 (by decide)
  replace t_q75 : ty Γ139 q75 125 := hx140.one t_q75 (by decide)
  replace t_q82 : ty Γ139 q82 127 := hx140.one t_q82 (by decide)
  replace t_q89 : ty Γ139 q89 128 := hx140.one t_q89 (by decide)
  replace t_q96 : ty Γ139 q96 129 := hx140.one t_q96 (by decide)
  replace t_q103 : ty Γ139 q103 130 := hx140.one t_q103 (by decide)
  replace t_q110 : ty Γ139 q110 131 := hx140.one t_q110 (by decide)
  replace t_q117 : ty Γ139 q117 132 := hx140.one t_q117 (by decide)
  replace t_q124 : ty Γ139 q124 133 := hx140.one t_q124 (by decide)
  replace t_q131 : ty Γ139 q131 134 := hx140.one t_q131 (by decide)
  have t_q138 : ty Γ139 q138 135 := by rw [eΓ139]; unfold ty; rw [va_up_self]
  clear z_q138 s_q138 e_q138
  refine rw_X9 hx hb hA hE hG hS hown hin rfl 35 (by decide) wd_4_165 rfl (ty := .array .int) (tyX9_ok 35 (by decide)) rfl rfl (Nat.le_of_ble_eq_true rfl) dX9_init_178 (fun H locs hG hS => ?_)
  replace hG : ty_ok (dC, dI) vwCl Γ139 (TP dA Γ139 g) sz ((h0, .inr (9, [.int 0, .int 0, .ref q3, .ref q10, .int 0, .ref q17, .ref q24, .ref q31, .ref q38, .ref q45, .ref q52, .int 0, .int 0, .ref q59, .int 0, .int 0, .int 0, .int 0, .int 0, .int 0, .int 0, .int x64, .int 0, .ref q68, .int 0, .ref q75, .int 0, .ref q82, .ref q89, .ref q96, .ref q103, .ref q110, .ref q117, .ref q124, .ref q131, .ref q138, .null, .int 0, .null, .null, .null, .int 0, .int 0, .int 0, .null, .null, .null])) :: X) H := hG
  refine lv_aload_n hx hb dX9_init_181 rfl (lv_at hl 0 rfl) ?_
  refine ty_bipush hx hb (9) dX9_init_182 (by decide) (fun x143 h144 => ?_)
  refine new_I hx hb hA hE hG hS wd_1_70 (N := 9) (by omega) (by decide) (Nat.le_of_ble_eq_true rfl) (Nat.le_of_ble_eq_true rfl) (136, 0) (fun Γ' => by rw [TP_m (k := 36) rfl]; exact ⟨_, rfl, fun j hj => by rw [Nat.zero_add]; exact (z100 136 j (by decide)).symm, fun j hj => ⟨show mLo 36 ≤ (0 : Int32).toInt by decide, show (0 : Int32).toInt ≤ mHi 36 by decide⟩⟩) dX9_init_184 (fun q145 H z_q145 s_q145 e_q145 hG hS => ?_)
  obtain ⟨Γ146, eΓ146⟩ : ∃ z, z = va_up Γ139 q145 (136, 0) := ⟨_, rfl⟩
  rw [← eΓ146] at hG
  have hx147 : ext Γ139 Γ146 := by rw [eΓ146]; exact ext.up z_q145
  have hU : Un Γ146 := by rw [eΓ146]; exact Un.up hU hL141 (by show (136 : Nat) ≠ 0; decide) (fun _ => (nmap (by show (136 : Nat) ≠ 135; decide) (nmap (by show (136 : Nat) ≠ 134; decide) (nmap (by show (136 : Nat) ≠ 133; decide) (nmap (by show (136 : Nat) ≠ 132; decide) (nmap (by show (136 : Nat) ≠ 131; decide) (nmap (by show (136 : Nat) ≠ 130; decide) (nmap (by show (136 : Nat) ≠ 129; decide) (nmap (by show (136 : Nat) ≠ 128; decide) (nmap (by show (136 : Nat) ≠ 127; decide) (nmap (by show (136 : Nat) ≠ 125; decide) (nmap (by show (136 : Nat) ≠ 123; decide) (nmap (by show (136 : Nat) ≠ 113; decide) (nmap (by show (136 : Nat) ≠ 110; decide) (nmap (by show (136 : Nat) ≠ 109; decide) (nmap (by show (136 : Nat) ≠ 108; decide) (nmap (by show (136 : Nat) ≠ 107; decide) (nmap (by show (136 : Nat) ≠ 106; decide) (nmap (by show (136 : Nat) ≠ 105; decide) (nmap (by show (136 : Nat) ≠ 103; decide) (nmap (by show (136 : Nat) ≠ 102; decide) (hn 136 (by decide))))))))))))))))))))))) (fun h => absurd (show sg2 136 = true from h) (by decide))
  have hL148 : tyIn Γ146 ((136, 0) :: ((135, 0) :: ((134, 0) :: ((133, 0) :: ((132, 0) :: ((131, 0) :: ((130, 0) :: ((129, 0) :: ((128, 0) :: ((127, 0) :: ((125, 0) :: ((123, 0) :: ((113, 0) :: ((110, 0) :: ((109, 0) :: ((108, 0) :: ((107, 0) :: ((106, 0) :: ((105, 0) :: ((103, 0) :: ((102, 0) :: L))))))))))))))))))))) := by rw [eΓ146]; exact hL141.up
  have hX149 : ext Γ Γ146 := ext.trans hX142 hx147
  replace t_q3 : ty Γ146 q3 102 := hx147.one t_q3 (by decide)
  replace t_q10 : ty Γ146 q10 103 := hx147.one t_q10 (by decide)
  replace t_q17 : ty Γ146 q17 105 := hx147.one t_q17 (by decide)
  replace t_q24 : ty Γ146 q24 106 := hx147.one t_q24 (by decide)
  replace t_q31 : ty Γ146 q31 107 := hx147.one t_q31 (by decide)
  replace t_q38 : ty Γ146 q38 108 := hx147.one t_q38 (by decide)
  replace t_q45 : ty Γ146 q45 109 := hx147.one t_q45 (by decide)
  replace t_q52 : ty Γ146 q52 110 := hx147.one t_q52 (by decide)
  replace t_q59 : ty Γ146 q59 113 := hx147.one t_q59 (by decide)
  replace t_q68 : ty Γ146 q68 123 := hx147.one t_q68 (by decide)
  replace t_q75 : ty Γ146 q75 125 := hx147.one t_q75 (by decide)
  replace t_q82 : ty Γ146 q82 127 := hx147.one t_q82 (by decide)
  replace t_q89 : ty Γ146 q89 128 := hx147.one t_q89 (by decide)
  replace t_q96 : ty Γ146 q96 129 := hx147.one t_q96 (by decide)
  replace t_q103 : ty Γ146 q103 130 := hx147.one t_q103 (by decide)
  replace t_q110 : ty Γ146 q110 131 := hx147.one t_q110 (by decide)
  replace t_q117 : ty Γ146 q117 132 := hx147.one t_q117 (by decide)
  replace t_q124 : ty Γ146 q124 133 := hx147.one t_q124 (by decide)
  replace t_q131 : ty Γ146 q131 134 := hx147.one t_q131 (by decide)
  replace t_q138 : ty Γ146 q138 135 := hx147.one t_q138 (by decide)
  have t_q145 : ty Γ146 q145 136 := by rw [eΓ146]; unfold ty; rw [va_up_self]
  clear z_q145 s_q145 e_q145
  refine rw_X9 hx hb hA hE hG hS hown hin rfl 36 (by decide) wd_4_166 rfl (ty := .array .int) (tyX9_ok 36 (by decide)) rfl rfl (Nat.le_of_ble_eq_true rfl) dX9_init_186 (fun H locs hG hS => ?_)
  replace hG : ty_ok (dC, dI) vwCl Γ146 (TP dA Γ146 g) sz ((h0, .inr (9, [.int 0, .int 0, .ref q3, .ref q10, .int 0, .ref q17, .ref q24, .ref q31, .ref q38, .ref q45, .ref q52, .int 0, .int 0, .ref q59, .int 0, .int 0, .int 0, .int 0, .int 0, .int 0, .int 0, .int x64, .int 0, .ref q68, .int 0, .ref q75, .int 0, .ref q82, .ref q89, .ref q96, .ref q103, .ref q110, .ref q117, .ref q124, .ref q131, .ref q138, .ref q145, .int 0, .null, .null, .null, .int 0, .int 0, .int 0, .null, .null, .null])) :: X) H := hG
  refine lv_aload_n hx hb dX9_init_189 rfl (lv_at hl 0 rfl) ?_
  refine ty_bipush hx hb (9) dX9_init_190 (by decide) (fun x150 h151 => ?_)
  refine new_I hx hb hA hE hG hS wd_1_70 (N := 9) (by omega) (by decide) (Nat.le_of_ble_eq_true rfl) (Nat.le_of_ble_eq_true rfl) (138, 0) (fun Γ' => by rw [TP_m (k := 38) rfl]; exact ⟨_, rfl, fun j hj => by rw [Nat.zero_add]; exact (z100 138 j (by decide)).symm, fun j hj => ⟨show mLo 38 ≤ (0 : Int32).toInt by decide, show (0 : Int32).toInt ≤ mHi 38 by decide⟩⟩) dX9_init_192 (fun q152 H z_q152 s_q152 e_q152 hG hS => ?_)
  obtain ⟨Γ153, eΓ153⟩ : ∃ z, z = va_up Γ146 q152 (138, 0) := ⟨_, rfl⟩
  rw [← eΓ153] at hG
  have hx154 : ext Γ146 Γ153 := by rw [eΓ153]; exact ext.up z_q152
  have hU : Un Γ153 := by rw [eΓ153]; exact Un.up hU hL148 (by show (138 : Nat) ≠ 0; decide) (fun _ => (nmap (by show (138 : Nat) ≠ 136; decide) (nmap (by show (138 : Nat) ≠ 135; decide) (nmap (by show (138 : Nat) ≠ 134; decide) (nmap (by show (138 : Nat) ≠ 133; decide) (nmap (by show (138 : Nat) ≠ 132; decide) (nmap (by show (138 : Nat) ≠ 131; decide) (nmap (by show (138 : Nat) ≠ 130; decide) (nmap (by show (138 : Nat) ≠ 129; decide) (nmap (by show (138 : Nat) ≠ 128; decide) (nmap (by show (138 : Nat) ≠ 127; decide) (nmap (by show (138 : Nat) ≠ 125; decide) (nmap (by show (138 : Nat) ≠ 123; decide) (nmap (by show (138 : Nat) ≠ 113; decide) (nmap (by show (138 : Nat) ≠ 110; decide) (nmap (by show (138 : Nat) ≠ 109; decide) (nmap (by show (138 : Nat) ≠ 108; decide) (nmap (by show (138 : Nat) ≠ 107; decide) (nmap (by show (138 : Nat) ≠ 106; decide) (nmap (by show (138 : Nat) ≠ 105; decide) (nmap (by show (138 : Nat) ≠ 103; decide) (nmap (by show (138 : Nat) ≠ 102; decide) (hn 138 (by decide)))))))))))))))))))))))) (fun h => absurd (show sg2 138 = true from h) (by decide))
  have hL155 : tyIn Γ153 ((138, 0) :: ((136, 0) :: ((135, 0) :: ((134, 0) :: ((133, 0) :: ((132, 0) :: ((131, 0) :: ((130, 0) :: ((129, 0) :: ((128, 0) :: ((127, 0) :: ((125, 0) :: ((123, 0) :: ((113, 0) :: ((110, 0) :: ((109, 0) :: ((108, 0) :: ((107, 0) :: ((106, 0) :: ((105, 0) :: ((103, 0) :: ((102, 0) :: L)))))))))))))))))))))) := by rw [eΓ153]; exact hL148.up
  have hX156 : ext Γ Γ153 := ext.trans hX149 hx154
  replace t_q3 : ty Γ153 q3 102 := hx154.one t_q3 (by decide)
  replace t_q10 : ty Γ153 q10 103 := hx154.one t_q10 (by decide)
  replace t_q17 : ty Γ153 q17 105 := hx154.one t_q17 (by decide)
  replace t_q24 : ty Γ153 q24 106 := hx154.one t_q24 (by decide)
  replace t_q31 : ty Γ153 q31 107 := hx154.one t_q31 (by decide)
  replace t_q38 : ty Γ153 q38 108 := hx154.one t_q38 (by decide)
  replace t_q45 : ty Γ153 q45 109 := hx154.one t_q45 (by decide)
  replace t_q52 : ty Γ153 q52 110 := hx154.one t_q52 (by decide)
  replace t_q59 : ty Γ153 q59 113 := hx154.one t_q59 (by decide)
  replace t_q68 : ty Γ153 q68 123 := hx154.one t_q68 (by decide)
  replace t_q75 : ty Γ153 q75 125 := hx154.one t_q75 (by decide)
  replace t_q82 : ty Γ153 q82 127 := hx154.one t_q82 (by decide)
  replace t_q89 : ty Γ153 q89 128 := hx154.one t_q89 (by decide)
  replace t_q96 : ty Γ153 q96 129 := hx154.one t_q96 (by decide)
  replace t_q103 : ty Γ153 q103 130 := hx154.one t_q103 (by decide)
  replace t_q110 : ty Γ153 q110 131 := hx154.one t_q110 (by decide)
  replace t_q117 : ty Γ153 q117 132 := hx154.one t_q117 (by decide)
  replace t_q124 : ty Γ153 q124 133 := hx154.one t_q124 (by decide)
  replace t_q131 : ty Γ153 q131 134 := hx154.one t_q131 (by decide)
  replace t_q138 : ty Γ153 q138 135 := hx154.one t_q138 (by decide)
  replace t_q145 : ty Γ153 q145 136 := hx154.one t_q145 (by decide)
  have t_q152 : ty Γ153 q152 138 := by rw [eΓ153]; unfold ty; rw [va_up_self]
  clear z_q152 s_q152 e_q152
  refine rw_X9 hx hb hA hE hG hS hown hin rfl 38 (by decide) wd_4_168 rfl (ty := .array .int) (tyX9_ok 38 (by decide)) rfl rfl (Nat.le_of_ble_eq_true rfl) dX9_init_194 (fun H locs hG hS => ?_)
  replace hG : ty_ok (dC, dI) vwCl Γ153 (TP dA Γ153 g) sz ((h0, .inr (9, [.int 0, .int 0, .ref q3, .ref q10, .int 0, .ref q17, .ref q24, .ref q31, .ref q38, .ref q45, .ref q52, .int 0, .int 0, .ref q59, .int 0, .int 0, .int 0, .int 0, .int 0, .int 0, .int 0, .int x64, .int 0, .ref q68, .int 0, .ref q75, .int 0, .ref q82, .ref q89, .ref q96, .ref q103, .ref q110, .ref q117, .ref q124, .ref q131, .ref q138, .ref q145, .int 0, .ref q152, .null, .null, .int 0, .int 0, .int 0, .null, .null, .null])) :: X) H := hG
  refine lv_aload_n hx hb dX9_init_197 rfl (lv_at hl 0 rfl) ?_
  refine ty_bipush hx hb (9) dX9_init_198 (by decide) (fun x157 h158 => ?_)
  refine new_I hx hb hA hE hG hS wd_1_70 (N := 9) (by omega) (by decide) (Nat.le_of_ble_eq_true rfl) (Nat.le_of_ble_eq_true rfl) (139, 0) (fun Γ' => by rw [TP_m (k := 39) rfl]; exact ⟨_, rfl, fun j hj => by rw [Nat.zero_add]; exact (z100 139 j (by decide)).symm, fun j hj => ⟨show mLo 39 ≤ (0 : Int32).toInt by decide, show (0 : Int32).toInt ≤ mHi 39 by decide⟩⟩) dX9_init_200 (fun q159 H z_q159 s_q159 e_q159 hG hS => ?_)
  obtain ⟨Γ160, eΓ160⟩ : ∃ z, z = va_up Γ153 q159 (139, 0) := ⟨_, rfl⟩
  rw [← eΓ160] at hG
  have hx161 : ext Γ153 Γ160 := by rw [eΓ160]; exact ext.up z_q159
  have hU : Un Γ160 := by rw [eΓ160]; exact Un.up hU hL155 (by show (139 : Nat) ≠ 0; decide) (fun _ => (nmap (by show (139 : Nat) ≠ 138; decide) (nmap (by show (139 : Nat) ≠ 136; decide) (nmap (by show (139 : Nat) ≠ 135; decide) (nmap (by show (139 : Nat) ≠ 134; decide) (nmap (by show (139 : Nat) ≠ 133; decide) (nmap (by show (139 : Nat) ≠ 132; decide) (nmap (by show (139 : Nat) ≠ 131; decide) (nmap (by show (139 : Nat) ≠ 130; decide) (nmap (by show (139 : Nat) ≠ 129; decide) (nmap (by show (139 : Nat) ≠ 128; decide) (nmap (by show (139 : Nat) ≠ 127; decide) (nmap (by show (139 : Nat) ≠ 125; decide) (nmap (by show (139 : Nat) ≠ 123; decide) (nmap (by show (139 : Nat) ≠ 113; decide) (nmap (by show (139 : Nat) ≠ 110; decide) (nmap (by show (139 : Nat) ≠ 109; decide) (nmap (by show (139 : Nat) ≠ 108; decide) (nmap (by show (139 : Nat) ≠ 107; decide) (nmap (by show (139 : Nat) ≠ 106; decide) (nmap (by show (139 : Nat) ≠ 105; decide) (nmap (by show (139 : Nat) ≠ 103; decide) (nmap (by show (139 : Nat) ≠ 102; decide) (hn 139 (by decide))))))))))))))))))))))))) (fun h => absurd (show sg2 139 = true from h) (by decide))
  have hL162 : tyIn Γ160 ((139, 0) :: ((138, 0) :: ((136, 0) :: ((135, 0) :: ((134, 0) :: ((133, 0) :: ((132, 0) :: ((131, 0) :: ((130, 0) :: ((129, 0) :: ((128, 0) :: ((127, 0) :: ((125, 0) :: ((123, 0) :: ((113, 0) :: ((110, 0) :: ((109, 0) :: ((108, 0) :: ((107, 0) :: ((106, 0) :: ((105, 0) :: ((103, 0) :: ((102, 0) :: L))))))))))))))))))))))) := by rw [eΓ160]; exact hL155.up
  have hX163 : ext Γ Γ160 := ext.trans hX156 hx161
  replace t_q3 : ty Γ160 q3 102 := hx161.one t_q3 (by decide)
  replace t_q10 : ty Γ160 q10 103 := hx161.one t_q10 (by decide)
  replace t_q17 : ty Γ160 q17 105 := hx161.one t_q17 (by decide)
  replace t_q24 : ty Γ160 q24 106 := hx161.one t_q24 (by decide)
  replace t_q31 : ty Γ160 q31 107 := hx161.one t_q31 (by decide)
  replace t_q38 : ty Γ160 q38 108 := hx161.one t_q38 (by decide)
  replace t_q45 : ty Γ160 q45 109 := hx161.one t_q45 (by decide)
  replace t_q52 : ty Γ160 q52 110 := hx161.one t_q52 (by decide)
  replace t_q59 : ty Γ160 q59 113 := hx161.one t_q59 (by decide)
  replace t_q68 : ty Γ160 q68 123 := hx161.one t_q68 (by decide)
  replace t_q75 : ty Γ160 q75 125 := hx161.one t_q75 (by decide)
  replace t_q82 : ty Γ160 q82 127 := hx161.one t_q82 (by decide)
  replace t_q89 : ty Γ160 q89 128 := hx161.one t_q89 (by decide)
  replace t_q96 : ty Γ160 q96 129 := hx161.one t_q96 (by decide)
  replace t_q103 : ty Γ160 q103 130 := hx161.one t_q103 (by decide)
  replace t_q110 : ty Γ160 q110 131 := hx161.one t_q110 (by decide)
  replace t_q117 : ty Γ160 q117 132 := hx161.one t_q117 (by decide)
  replace t_q124 : ty Γ160 q124 133 := hx161.one t_q124 (by decide)
  replace t_q131 : ty Γ160 q131 134 := hx161.one t_q131 (by decide)
  replace t_q138 : ty Γ160 q138 135 := hx161.one t_q138 (by decide)
  replace t_q145 : ty Γ160 q145 136 := hx161.one t_q145 (by decide)
  replace t_q152 : ty Γ160 q152 138 := hx161.one t_q152 (by decide)
  have t_q159 : ty Γ160 q159 139 := by rw [eΓ160]; unfold ty; rw [va_up_self]
  clear z_q159 s_q159 e_q159
  refine rw_X9 hx hb hA hE hG hS hown hin rfl 39 (by decide) wd_4_169 rfl (ty := .array .int) (tyX9_ok 39 (by decide)) rfl rfl (Nat.le_of_ble_eq_true rfl) dX9_init_202 (fun H locs hG hS => ?_)
  replace hG : ty_ok (dC, dI) vwCl Γ160 (TP dA Γ160 g) sz ((h0, .inr (9, [.int 0, .int 0, .ref q3, .ref q10, .int 0, .ref q17, .ref q24, .ref q31, .ref q38, .ref q45, .ref q52, .int 0, .int 0, .ref q59, .int 0, .int 0, .int 0, .int 0, .int 0, .int 0, .int 0, .int x64, .int 0, .ref q68, .int 0, .ref q75, .int 0, .ref q82, .ref q89, .ref q96, .ref q103, .ref q110, .ref q117, .ref q124, .ref q131, .ref q138, .ref q145, .int 0, .ref q152, .ref q159, .null, .int 0, .int 0, .int 0, .null, .null, .null])) :: X) H := hG
  refine lv_aload_n hx hb dX9_init_205 rfl (lv_at hl 0 rfl) ?_
  refine ty_bipush hx hb (9) dX9_init_206 (by decide) (fun x164 h165 => ?_)
  refine new_Z hx hb hA hE hG hS wd_1_156 (N := 9) (by omega) (by decide) (Nat.le_of_ble_eq_true rfl) (Nat.le_of_ble_eq_true rfl) (140, 0) (fun Γ' => by rw [TP_m (k := 40) rfl]; exact ⟨_, rfl, fun j hj => by rw [Nat.zero_add]; exact (z100 140 j (by decide)).symm, fun j hj => ⟨show mLo 40 ≤ (0 : Int32).toInt by decide, show (0 : Int32).toInt ≤ mHi 40 by decide⟩⟩) dX9_init_208 (fun q166 H z_q166 s_q166 e_q166 hG hS => ?_)
  obtain ⟨Γ167, eΓ167⟩ : ∃ z, z = va_up Γ160 q166 (140, 0) := ⟨_, rfl⟩
  rw [← eΓ167] at hG
  have hx168 : ext Γ160 Γ167 := by rw [eΓ167]; exact ext.up z_q166
  have hU : Un Γ167 := by rw [eΓ167]; exact Un.up hU hL162 (by show (140 : Nat) ≠ 0; decide) (fun _ => (nmap (by show (140 : Nat) ≠ 139; decide) (nmap (by show (140 : Nat) ≠ 138; decide) (nmap (by show (140 : Nat) ≠ 136; decide) (nmap (by show (140 : Nat) ≠ 135; decide) (nmap (by show (140 : Nat) ≠ 134; decide) (nmap (by show (140 : Nat) ≠ 133; decide) (nmap (by show (140 : Nat) ≠ 132; decide) (nmap (by show (140 : Nat) ≠ 131; decide) (nmap (by show (140 : Nat) ≠ 130; decide) (nmap (by show (140 : Nat) ≠ 129; decide) (nmap (by show (140 : Nat) ≠ 128; decide) (nmap (by show (140 : Nat) ≠ 127; decide) (nmap (by show (140 : Nat) ≠ 125; decide) (nmap (by show (140 : Nat) ≠ 123; decide) (nmap (by show (140 : Nat) ≠ 113; decide) (nmap (by show (140 : Nat) ≠ 110; decide) (nmap (by show (140 : Nat) ≠ 109; decide) (nmap (by show (140 : Nat) ≠ 108; decide) (nmap (by show (140 : Nat) ≠ 107; decide) (nmap (by show (140 : Nat) ≠ 106; decide) (nmap (by show (140 : Nat) ≠ 105; decide) (nmap (by show (140 : Nat) ≠ 103; decide) (nmap (by show (140 : Nat) ≠ 102; decide) (hn 140 (by decide)))))))))))))))))))))))))) (fun h => absurd (show sg2 140 = true from h) (by decide))
  have hL169 : tyIn Γ167 ((140, 0) :: ((139, 0) :: ((138, 0) :: ((136, 0) :: ((135, 0) :: ((134, 0) :: ((133, 0) :: ((132, 0) :: ((131, 0) :: ((130, 0) :: ((129, 0) :: ((128, 0) :: ((127, 0) :: ((125, 0) :: ((123, 0) :: ((113, 0) :: ((110, 0) :: ((109, 0) :: ((108, 0) :: ((107, 0) :: ((106, 0) :: ((105, 0) :: ((103, 0) :: ((102, 0) :: L)))))))))))))))))))))))) := by rw [eΓ167]; exact hL162.up
  have hX170 : ext Γ Γ167 := ext.trans hX163 hx168
  replace t_q3 : ty Γ167 q3 102 := hx168.one t_q3 (by decide)
  replace t_q10 : ty Γ167 q10 103 := hx168.one t_q10 (by decide)
  replace t_q17 : ty Γ167 q17 105 := hx168.one t_q17 (by decide)
  replace t_q24 : ty Γ167 q24 106 := hx168.one t_q24 (by decide)
  replace t_q31 : ty Γ167 q31 107 := hx168.one t_q31 (by decide)
  replace t_q38 : ty Γ167 q38 108 := hx168.one t_q38 (by decide)
  replace t_q45 : ty Γ167 q45 109 := hx168.one t_q45 (by decide)
  replace t_q52 : ty Γ167 q52 110 := hx168.one t_q52 (by decide)
  replace t_q59 : ty Γ167 q59 113 := hx168.one t_q59 (by decide)
  replace t_q68 : ty Γ167 q68 123 := hx168.one t_q68 (by decide)
  replace t_q75 : ty Γ167 q75 125 := hx168.one t_q75 (by decide)
  replace t_q82 : ty Γ167 q82 127 := hx168.one t_q82 (by decide)
  replace t_q89 : ty Γ167 q89 128 := hx168.one t_q89 (by decide)
  replace t_q96 : ty Γ167 q96 129 := hx168.one t_q96 (by decide)
  replace t_q103 : ty Γ167 q103 130 := hx168.one t_q103 (by decide)
  replace t_q110 : ty Γ167 q110 131 := hx168.one t_q110 (by decide)
  replace t_q117 : ty Γ167 q117 132 := hx168.one t_q117 (by decide)
  replace t_q124 : ty Γ167 q124 133 := hx168.one t_q124 (by decide)
  replace t_q131 : ty Γ167 q131 134 := hx168.one t_q131 (by decide)
  replace t_q138 : ty Γ167 q138 135 := hx168.one t_q138 (by decide)
  replace t_q145 : ty Γ167 q145 136 := hx168.one t_q145 (by decide)
  replace t_q152 : ty Γ167 q152 138 := hx168.one t_q152 (by decide)
  replace t_q159 : ty Γ167 q159 139 := hx168.one t_q159 (by decide)
  have t_q166 : ty Γ167 q166 140 := by rw [eΓ167]; unfold ty; rw [va_up_self]
  clear z_q166 s_q166 e_q166
  refine rw_X9 hx hb hA hE hG hS hown hin rfl 40 (by decide) wd_4_170 rfl (ty := .array .boolean) (tyX9_ok 40 (by decide)) rfl rfl (Nat.le_of_ble_eq_true rfl) dX9_init_210 (fun H locs hG hS => ?_)
  replace hG : ty_ok (dC, dI) vwCl Γ167 (TP dA Γ167 g) sz ((h0, .inr (9, [.int 0, .int 0, .ref q3, .ref q10, .int 0, .ref q17, .ref q24, .ref q31, .ref q38, .ref q45, .ref q52, .int 0, .int 0, .ref q59, .int 0, .int 0, .int 0, .int 0, .int 0, .int 0, .int 0, .int x64, .int 0, .ref q68, .int 0, .ref q75, .int 0, .ref q82, .ref q89, .ref q96, .ref q103, .ref q110, .ref q117, .ref q124, .ref q131, .ref q138, .ref q145, .int 0, .ref q152, .ref q159, .ref q166, .int 0, .int 0, .int 0, .null, .null, .null])) :: X) H := hG
  refine lv_aload_n hx hb dX9_init_213 rfl (lv_at hl 0 rfl) ?_
  refine ty_bipush hx hb (10) dX9_init_214 (by decide) (fun x171 h172 => ?_)
  refine new_Z hx hb hA hE hG hS wd_1_156 (N := 10) (by omega) (by decide) (Nat.le_of_ble_eq_true rfl) (Nat.le_of_ble_eq_true rfl) (144, 0) (fun Γ' => by rw [TP_m (k := 44) rfl]; exact ⟨_, rfl, fun j hj => by rw [Nat.zero_add]; exact (z100 144 j (by decide)).symm, fun j hj => ⟨show mLo 44 ≤ (0 : Int32).toInt by decide, show (0 : Int32).toInt ≤ mHi 44 by decide⟩⟩) dX9_init_216 (fun q173 H z_q173 s_q173 e_q173 hG hS => ?_)
  obtain ⟨Γ174, eΓ174⟩ : ∃ z, z = va_up Γ167 q173 (144, 0) := ⟨_, rfl⟩
  rw [← eΓ174] at hG
  have hx175 : ext Γ167 Γ174 := by rw [eΓ174]; exact ext.up z_q173
  have hU : Un Γ174 := by rw [eΓ174]; exact Un.up hU hL169 (by show (144 : Nat) ≠ 0; decide) (fun _ => (nmap (by show (144 : Nat) ≠ 140; decide) (nmap (by show (144 : Nat) ≠ 139; decide) (nmap (by show (144 : Nat) ≠ 138; decide) (nmap (by show (144 : Nat) ≠ 136; decide) (nmap (by show (144 : Nat) ≠ 135; decide) (nmap (by show (144 : Nat) ≠ 134; decide) (nmap (by show (144 : Nat) ≠ 133; decide) (nmap (by show (144 : Nat) ≠ 132; decide) (nmap (by show (144 : Nat) ≠ 131; decide) (nmap (by show (144 : Nat) ≠ 130; decide) (nmap (by show (144 : Nat) ≠ 129; decide) (nmap (by show (144 : Nat) ≠ 128; decide) (nmap (by show (144 : Nat) ≠ 127; decide) (nmap (by show (144 : Nat) ≠ 125; decide) (nmap (by show (144 : Nat) ≠ 123; decide) (nmap (by show (144 : Nat) ≠ 113; decide) (nmap (by show (144 : Nat) ≠ 110; decide) (nmap (by show (144 : Nat) ≠ 109; decide) (nmap (by show (144 : Nat) ≠ 108; decide) (nmap (by show (144 : Nat) ≠ 107; decide) (nmap (by show (144 : Nat) ≠ 106; decide) (nmap (by show (144 : Nat) ≠ 105; decide) (nmap (by show (144 : Nat) ≠ 103; decide) (nmap (by show (144 : Nat) ≠ 102; decide) (hn 144 (by decide))))))))))))))))))))))))))) (fun h => absurd (show sg2 144 = true from h) (by decide))
  have hL176 : tyIn Γ174 ((144, 0) :: ((140, 0) :: ((139, 0) :: ((138, 0) :: ((136, 0) :: ((135, 0) :: ((134, 0) :: ((133, 0) :: ((132, 0) :: ((131, 0) :: ((130, 0) :: ((129, 0) :: ((128, 0) :: ((127, 0) :: ((125, 0) :: ((123, 0) :: ((113, 0) :: ((110, 0) :: ((109, 0) :: ((108, 0) :: ((107, 0) :: ((106, 0) :: ((105, 0) :: ((103, 0) :: ((102, 0) :: L))))))))))))))))))))))))) := by rw [eΓ174]; exact hL169.up
  have hX177 : ext Γ Γ174 := ext.trans hX170 hx175
  replace t_q3 : ty Γ174 q3 102 := hx175.one t_q3 (by decide)
  replace t_q10 : ty Γ174 q10 103 := hx175.one t_q10 (by decide)
  replace t_q17 : ty Γ174 q17 105 := hx175.one t_q17 (by decide)
  replace t_q24 : ty Γ174 q24 106 := hx175.one t_q24 (by decide)
  replace t_q31 : ty Γ174 q31 107 := hx175.one t_q31 (by decide)
  replace t_q38 : ty Γ174 q38 108 := hx175.one t_q38 (by decide)
  replace t_q45 : ty Γ174 q45 109 := hx175.one t_q45 (by decide)
  replace t_q52 : ty Γ174 q52 110 := hx175.one t_q52 (by decide)
  replace t_q59 : ty Γ174 q59 113 := hx175.one t_q59 (by decide)
  replace t_q68 : ty Γ174 q68 123 := hx175.one t_q68 (by decide)
  replace t_q75 : ty Γ174 q75 125 := hx175.one t_q75 (by decide)
  replace t_q82 : ty Γ174 q82 127 := hx175.one t_q82 (by decide)
  replace t_q89 : ty Γ174 q89 128 := hx175.one t_q89 (by decide)
  replace t_q96 : ty Γ174 q96 129 := hx175.one t_q96 (by decide)
  replace t_q103 : ty Γ174 q103 130 := hx175.one t_q103 (by decide)
  replace t_q110 : ty Γ174 q110 131 := hx175.one t_q110 (by decide)
  replace t_q117 : ty Γ174 q117 132 := hx175.one t_q117 (by decide)
  replace t_q124 : ty Γ174 q124 133 := hx175.one t_q124 (by decide)
  replace t_q131 : ty Γ174 q131 134 := hx175.one t_q131 (by decide)
  replace t_q138 : ty Γ174 q138 135 := hx175.one t_q138 (by decide)
  replace t_q145 : ty Γ174 q145 136 := hx175.one t_q145 (by decide)
  replace t_q152 : ty Γ174 q152 138 := hx175.one t_q152 (by decide)
  replace t_q159 : ty Γ174 q159 139 := hx175.one t_q159 (by decide)
  replace t_q166 : ty Γ174 q166 140 := hx175.one t_q166 (by decide)
  have t_q173 : ty Γ174 q173 144 := by rw [eΓ174]; unfold ty; rw [va_up_self]
  clear z_q173 s_q173 e_q173
  refine rw_X9 hx hb hA hE hG hS hown hin rfl 44 (by decide) wd_4_174 rfl (ty := .array .boolean) (tyX9_ok 44 (by decide)) rfl rfl (Nat.le_of_ble_eq_true rfl) dX9_init_218 (fun H locs hG hS => ?_)
  replace hG : ty_ok (dC, dI) vwCl Γ174 (TP dA Γ174 g) sz ((h0, .inr (9, [.int 0, .int 0, .ref q3, .ref q10, .int 0, .ref q17, .ref q24, .ref q31, .ref q38, .ref q45, .ref q52, .int 0, .int 0, .ref q59, .int 0, .int 0, .int 0, .int 0, .int 0, .int 0, .int 0, .int x64, .int 0, .ref q68, .int 0, .ref q75, .int 0, .ref q82, .ref q89, .ref q96, .ref q103, .ref q110, .ref q117, .ref q124, .ref q131, .ref q138, .ref q145, .int 0, .ref q152, .ref q159, .ref q166, .int 0, .int 0, .int 0, .ref q173, .null, .null])) :: X) H := hG
  refine lv_aload_n hx hb dX9_init_221 rfl (lv_at hl 0 rfl) ?_
  refine ty_bipush hx hb (10) dX9_init_222 (by decide) (fun x178 h179 => ?_)
  refine new_I hx hb hA hE hG hS wd_1_70 (N := 10) (by omega) (by decide) (Nat.le_of_ble_eq_true rfl) (Nat.le_of_ble_eq_true rfl) (145, 0) (fun Γ' => by rw [TP_m (k := 45) rfl]; exact ⟨_, rfl, fun j hj => by rw [Nat.zero_add]; exact (z100 145 j (by decide)).symm, fun j hj => ⟨show mLo 45 ≤ (0 : Int32).toInt by decide, show (0 : Int32).toInt ≤ mHi 45 by decide⟩⟩) dX9_init_224 (fun q180 H z_q180 s_q180 e_q180 hG hS => ?_)
  obtain ⟨Γ181, eΓ181⟩ : ∃ z, z = va_up Γ174 q180 (145, 0) := ⟨_, rfl⟩
  rw [← eΓ181] at hG
  have hx182 : ext Γ174 Γ181 := by rw [eΓ181]; exact ext.up z_q180
  have hU : Un Γ181 := by rw [eΓ181]; exact Un.up hU hL176 (by show (145 : Nat) ≠ 0; decide) (fun _ => (nmap (by show (145 : Nat) ≠ 144; decide) (nmap (by show (145 : Nat) ≠ 140; decide) (nmap (by show (145 : Nat) ≠ 139; decide) (nmap (by show (145 : Nat) ≠ 138; decide) (nmap (by show (145 : Nat) ≠ 136; decide) (nmap (by show (145 : Nat) ≠ 135; decide) (nmap (by show (145 : Nat) ≠ 134; decide) (nmap (by show (145 : Nat) ≠ 133; decide) (nmap (by show (145 : Nat) ≠ 132; decide) (nmap (by show (145 : Nat) ≠ 131; decide) (nmap (by show (145 : Nat) ≠ 130; decide) (nmap (by show (145 : Nat) ≠ 129; decide) (nmap (by show (145 : Nat) ≠ 128; decide) (nmap (by show (145 : Nat) ≠ 127; decide) (nmap (by show (145 : Nat) ≠ 125; decide) (nmap (by show (145 : Nat) ≠ 123; decide) (nmap (by show (145 : Nat) ≠ 113; decide) (nmap (by show (145 : Nat) ≠ 110; decide) (nmap (by show (145 : Nat) ≠ 109; decide) (nmap (by show (145 : Nat) ≠ 108; decide) (nmap (by show (145 : Nat) ≠ 107; decide) (nmap (by show (145 : Nat) ≠ 106; decide) (nmap (by show (145 : Nat) ≠ 105; decide) (nmap (by show (145 : Nat) ≠ 103; decide) (nmap (by show (145 : Nat) ≠ 102; decide) (hn 145 (by decide)))))))))))))))))))))))))))) (fun h => absurd (show sg2 145 = true from h) (by decide))
  have hL183 : tyIn Γ181 ((145, 0) :: ((144, 0) :: ((140, 0) :: ((139, 0) :: ((138, 0) :: ((136, 0) :: ((135, 0) :: ((134, 0) :: ((133, 0) :: ((132, 0) :: ((131, 0) :: ((130, 0) :: ((129, 0) :: ((128, 0) :: ((127, 0) :: ((125, 0) :: ((123, 0) :: ((113, 0) :: ((110, 0) :: ((109, 0) :: ((108, 0) :: ((107, 0) :: ((106, 0) :: ((105, 0) :: ((103, 0) :: ((102, 0) :: L)))))))))))))))))))))))))) := by rw [eΓ181]; exact hL176.up
  have hX184 : ext Γ Γ181 := ext.trans hX177 hx182
  replace t_q3 : ty Γ181 q3 102 := hx182.one t_q3 (by decide)
  replace t_q10 : ty Γ181 q10 103 := hx182.one t_q10 (by decide)
  replace t_q17 : ty Γ181 q17 105 := hx182.one t_q17 (by decide)
  replace t_q24 : ty Γ181 q24 106 := hx182.one t_q24 (by decide)
  replace t_q31 : ty Γ181 q31 107 := hx182.one t_q31 (by decide)
  replace t_q38 : ty Γ181 q38 108 := hx182.one t_q38 (by decide)
  replace t_q45 : ty Γ181 q45 109 := hx182.one t_q45 (by decide)
  replace t_q52 : ty Γ181 q52 110 := hx182.one t_q52 (by decide)
  replace t_q59 : ty Γ181 q59 113 := hx182.one t_q59 (by decide)
  replace t_q68 : ty Γ181 q68 123 := hx182.one t_q68 (by decide)
  replace t_q75 : ty Γ181 q75 125 := hx182.one t_q75 (by decide)
  replace t_q82 : ty Γ181 q82 127 := hx182.one t_q82 (by decide)
  replace t_q89 : ty Γ181 q89 128 := hx182.one t_q89 (by decide)
  replace t_q96 : ty Γ181 q96 129 := hx182.one t_q96 (by decide)
  replace t_q103 : ty Γ181 q103 130 := hx182.one t_q103 (by decide)
  replace t_q110 : ty Γ181 q110 131 := hx182.one t_q110 (by decide)
  replace t_q117 : ty Γ181 q117 132 := hx182.one t_q117 (by decide)
  replace t_q124 : ty Γ181 q124 133 := hx182.one t_q124 (by decide)
  replace t_q131 : ty Γ181 q131 134 := hx182.one t_q131 (by decide)
  replace t_q138 : ty Γ181 q138 135 := hx182.one t_q138 (by decide)
  replace t_q145 : ty Γ181 q145 136 := hx182.one t_q145 (by decide)
  replace t_q152 : ty Γ181 q152 138 := hx182.one t_q152 (by decide)
  replace t_q159 : ty Γ181 q159 139 := hx182.one t_q159 (by decide)
  replace t_q166 : ty Γ181 q166 140 := hx182.one t_q166 (by decide)
  replace t_q173 : ty Γ181 q173 144 := hx182.one t_q173 (by decide)
  have t_q180 : ty Γ181 q180 145 := by rw [eΓ181]; unfold ty; rw [va_up_self]
  clear z_q180 s_q180 e_q180
  refine rw_X9 hx hb hA hE hG hS hown hin rfl 45 (by decide) wd_4_175 rfl (ty := .array .int) (tyX9_ok 45 (by decide)) rfl rfl (Nat.le_of_ble_eq_true rfl) dX9_init_226 (fun H locs hG hS => ?_)
  replace hG : ty_ok (dC, dI) vwCl Γ181 (TP dA Γ181 g) sz ((h0, .inr (9, [.int 0, .int 0, .ref q3, .ref q10, .int 0, .ref q17, .ref q24, .ref q31, .ref q38, .ref q45, .ref q52, .int 0, .int 0, .ref q59, .int 0, .int 0, .int 0, .int 0, .int 0, .int 0, .int 0, .int x64, .int 0, .ref q68, .int 0, .ref q75, .int 0, .ref q82, .ref q89, .ref q96, .ref q103, .ref q110, .ref q117, .ref q124, .ref q131, .ref q138, .ref q145, .int 0, .ref q152, .ref q159, .ref q166, .int 0, .int 0, .int 0, .ref q173, .ref q180, .null])) :: X) H := hG
  refine lv_aload_n hx hb dX9_init_229 rfl (lv_at hl 0 rfl) ?_
  refine ty_bipush hx hb (10) dX9_init_230 (by decide) (fun x185 h186 => ?_)
  refine new_Z hx hb hA hE hG hS wd_1_156 (N := 10) (by omega) (by decide) (Nat.le_of_ble_eq_true rfl) (Nat.le_of_ble_eq_true rfl) (146, 0) (fun Γ' => by rw [TP_m (k := 46) rfl]; exact ⟨_, rfl, fun j hj => by rw [Nat.zero_add]; exact (z100 146 j (by decide)).symm, fun j hj => ⟨show mLo 46 ≤ (0 : Int32).toInt by decide, show (0 : Int32).toInt ≤ mHi 46 by decide⟩⟩) dX9_init_232 (fun q187 H z_q187 s_q187 e_q187 hG hS => ?_)
  obtain ⟨Γ188, eΓ188⟩ : ∃ z, z = va_up Γ181 q187 (146, 0) := ⟨_, rfl⟩
  rw [← eΓ188] at hG
  have hx189 : ext Γ181 Γ188 := by rw [eΓ188]; exact ext.up z_q187
  have hU : Un Γ188 := by rw [eΓ188]; exact Un.up hU hL183 (by show (146 : Nat) ≠ 0; decide) (fun _ => (nmap (by show (146 : Nat) ≠ 145; decide) (nmap (by show (146 : Nat) ≠ 144; decide) (nmap (by show (146 : Nat) ≠ 140; decide) (nmap (by show (146 : Nat) ≠ 139; decide) (nmap (by show (146 : Nat) ≠ 138; decide) (nmap (by show (146 : Nat) ≠ 136; decide) (nmap (by show (146 : Nat) ≠ 135; decide) (nmap (by show (146 : Nat) ≠ 134; decide) (nmap (by show (146 : Nat) ≠ 133; decide) (nmap (by show (146 : Nat) ≠ 132; decide) (nmap (by show (146 : Nat) ≠ 131; decide) (nmap (by show (146 : Nat) ≠ 130; decide) (nmap (by show (146 : Nat) ≠ 129; decide) (nmap (by show (146 : Nat) ≠ 128; decide) (nmap (by show (146 : Nat) ≠ 127; decide) (nmap (by show (146 : Nat) ≠ 125; decide) (nmap (by show (146 : Nat) ≠ 123; decide) (nmap (by show (146 : Nat) ≠ 113; decide) (nmap (by show (146 : Nat) ≠ 110; decide) (nmap (by show (146 : Nat) ≠ 109; decide) (nmap (by show (146 : Nat) ≠ 108; decide) (nmap (by show (146 : Nat) ≠ 107; decide) (nmap (by show (146 : Nat) ≠ 106; decide) (nmap (by show (146 : Nat) ≠ 105; decide) (nmap (by show (146 : Nat) ≠ 103; decide) (nmap (by show (146 : Nat) ≠ 102; decide) (hn 146 (by decide))))))))))))))))))))))))))))) (fun h => absurd (show sg2 146 = true from h) (by decide))
  have hL190 : tyIn Γ188 ((146, 0) :: ((145, 0) :: ((144, 0) :: ((140, 0) :: ((139, 0) :: ((138, 0) :: ((136, 0) :: ((135, 0) :: ((134, 0) :: ((133, 0) :: ((132, 0) :: ((131, 0) :: ((130, 0) :: ((129, 0) :: ((128, 0) :: ((127, 0) :: ((125, 0) :: ((123, 0) :: ((113, 0) :: ((110, 0) :: ((109, 0) :: ((108, 0) :: ((107, 0) :: ((106, 0) :: ((105, 0) :: ((103, 0) :: ((102, 0) :: L))))))))))))))))))))))))))) := by rw [eΓ188]; exact hL183.up
  have hX191 : ext Γ Γ188 := ext.trans hX184 hx189
  replace t_q3 : ty Γ188 q3 102 := hx189.one t_q3 (by decide)
  replace t_q10 : ty Γ188 q10 103 := hx189.one t_q10 (by decide)
  replace t_q17 : ty Γ188 q17 105 := hx189.one t_q17 (by decide)
  replace t_q24 : ty Γ188 q24 106 := hx189.one t_q24 (by decide)
  replace t_q31 : ty Γ188 q31 107 := hx189.one t_q31 (by decide)
  replace t_q38 : ty Γ188 q38 108 := hx189.one t_q38 (by decide)
  replace t_q45 : ty Γ188 q45 109 := hx189.one t_q45 (by decide)
  replace t_q52 : ty Γ188 q52 110 := hx189.one t_q52 (by decide)
  replace t_q59 : ty Γ188 q59 113 := hx189.one t_q59 (by decide)
  replace t_q68 : ty Γ188 q68 123 := hx189.one t_q68 (by decide)
  replace t_q75 : ty Γ188 q75 125 := hx189.one t_q75 (by decide)
  replace t_q82 : ty Γ188 q82 127 := hx189.one t_q82 (by decide)
  replace t_q89 : ty Γ188 q89 128 := hx189.one t_q89 (by decide)
  replace t_q96 : ty Γ188 q96 129 := hx189.one t_q96 (by decide)
  replace t_q103 : ty Γ188 q103 130 := hx189.one t_q103 (by decide)
  replace t_q110 : ty Γ188 q110 131 := hx189.one t_q110 (by decide)
  replace t_q117 : ty Γ188 q117 132 := hx189.one t_q117 (by decide)
  replace t_q124 : ty Γ188 q124 133 := hx189.one t_q124 (by decide)
  replace t_q131 : ty Γ188 q131 134 := hx189.one t_q131 (by decide)
  replace t_q138 : ty Γ188 q138 135 := hx189.one t_q138 (by decide)
  replace t_q145 : ty Γ188 q145 136 := hx189.one t_q145 (by decide)
  replace t_q152 : ty Γ188 q152 138 := hx189.one t_q152 (by decide)
  replace t_q159 : ty Γ188 q159 139 := hx189.one t_q159 (by decide)
  replace t_q166 : ty Γ188 q166 140 := hx189.one t_q166 (by decide)
  replace t_q173 : ty Γ188 q173 144 := hx189.one t_q173 (by decide)
  replace t_q180 : ty Γ188 q180 145 := hx189.one t_q180 (by decide)
  have t_q187 : ty Γ188 q187 146 := by rw [eΓ188]; unfold ty; rw [va_up_self]
  clear z_q187 s_q187 e_q187
  refine rw_X9 hx hb hA hE hG hS hown hin rfl 46 (by decide) wd_4_176 rfl (ty := .array .boolean) (tyX9_ok 46 (by decide)) rfl rfl (Nat.le_of_ble_eq_true rfl) dX9_init_234 (fun H locs hG hS => ?_)
  replace hG : ty_ok (dC, dI) vwCl Γ188 (TP dA Γ188 g) sz ((h0, .inr (9, [.int 0, .int 0, .ref q3, .ref q10, .int 0, .ref q17, .ref q24, .ref q31, .ref q38, .ref q45, .ref q52, .int 0, .int 0, .ref q59, .int 0, .int 0, .int 0, .int 0, .int 0, .int 0, .int 0, .int x64, .int 0, .ref q68, .int 0, .ref q75, .int 0, .ref q82, .ref q89, .ref q96, .ref q103, .ref q110, .ref q117, .ref q124, .ref q131, .ref q138, .ref q145, .int 0, .ref q152, .ref q159, .ref q166, .int 0, .int 0, .int 0, .ref q173, .ref q180, .ref q187])) :: X) H := hG
  refine ty_iconst hx hb (0) dX9_init_237 (by decide) (fun x192 h193 => ?_)
  refine lv_istore_n (lv' := [(1, .int x192), (0, .ref h0)]) hx hb dX9_init_238 rfl hl (by decide) rfl (fun ls hl => ?_)
  have L_239 : ∀ (n : Nat) (k : Int32) (g194 : gh) (H : Heap) (locs : List Loc) (ls : Array Slot), (318 - k.toInt : Int) < n → 0 ≤ k.toInt ∧ k.toInt ≤ 318 → (∀ c j : Nat, c ≠ 109 → g194 c j = g c j) → (g194 109 = fz (g 109) 0 (-1) k.toInt.toNat) → ty_ok (dC, dI) vwCl Γ188 (TP dA Γ188 g194) sz ((h0, .inr (9, [.int 0, .int 0, .ref q3, .ref q10, .int 0, .ref q17, .ref q24, .ref q31, .ref q38, .ref q45, .ref q52, .int 0, .int 0, .ref q59, .int 0, .int 0, .int 0, .int 0, .int 0, .int 0, .int 0, .int x64, .int 0, .ref q68, .int 0, .ref q75, .int 0, .ref q82, .ref q89, .ref q96, .ref q103, .ref q110, .ref q117, .ref q124, .ref q131, .ref q138, .ref q145, .int 0, .ref q152, .ref q159, .ref q166, .int 0, .int 0, .int 0, .ref q173, .ref q180, .ref q187])) :: X) H → va_S (ty_A sz) s.heap H locs → lv_has ls 2 [(1, .int k), (0, .ref h0)] → W p l e (headSpec (.code yX9_init cX9_init 2 (Option.none : Option Jvm.ClassFile.FieldType) :: AL) ({ frames := 1, cells := 27, slots := 3734, locals := 12 })).room s m ([.ref h0] : List Value).toArray below meth c H locs (((((((((((((((((((((((((((0 + 1) + 1) + 1) + 1) + 1) + 1) + 1) + 1) + 1) + 1) + 1) + 1) + 1) + 1) + 1) + 1) + 1) + 1) + 1) + 1) + 1) + 1) + 1) + 1) + 1) + 1) + 1) (((((((((((((((((((((((((((0 + 6) + 6) + 10) + 10) + 10) + 10) + 318) + 318) + 300) + 120) + 120) + 200) + 200) + 200) + 200) + 200) + 200) + 200) + 200) + 840) + 9) + 9) + 9) + 9) + 10) + 10) + 10) (MQ below (va_Qv (fun (u : (ty_G × gh)) => ext Γ u.1 ∧ Un u.1 ∧ tyIn u.1 ((30, 0) :: ((146, 0) :: ((145, 0) :: ((144, 0) :: ((140, 0) :: ((139, 0) :: ((138, 0) :: ((136, 0) :: ((135, 0) :: ((134, 0) :: ((133, 0) :: ((132, 0) :: ((131, 0) :: ((130, 0) :: ((129, 0) :: ((128, 0) :: ((127, 0) :: ((125, 0) :: ((123, 0) :: ((113, 0) :: ((110, 0) :: ((109, 0) :: ((108, 0) :: ((107, 0) :: ((106, 0) :: ((105, 0) :: ((103, 0) :: ((102, 0) :: L)))))))))))))))))))))))))))) ∧ (u.1 h0).1 = 30 ∧ (∀ c j : Nat, c ≠ 109 → u.2 c j = g c j) ∧ (u.2 109 = fz (g 109) 0 (-1) 318)) (okB dC dI dA sz X) (ty_A sz)) ([.ref h0] : List Value).toArray s 27 3734 (ty_A sz)) (F0 m 239 ls []) := by
    intro n
    induction n with
    | zero => intro k g194 H locs ls hm hi0 hf195 hq0 hG hS hl; exfalso; omega
    | succ n ih_239 =>
      intro k g194 H locs ls hm hi0 hf195 hq0 hG hS hl
      refine lv_iload_n hx hb dX9_init_239 rfl (lv_at hl 0 rfl) ?_
      refine ty_sipush hx hb (318) dX9_init_240 (by decide) (fun x196 h197 => ?_)
      refine ty_icmp_ge (tgt := 259) hx hb dX9_init_243 (by decide) (fun c198 => ?_) (fun c198 => ?_)
      · skip
        have hfr9 : ∀ c j : Nat, c ≠ 109 → g194 c j = g c j := (fun c j h109 => by (try dsimp only); rw [hf195 c j h109])
        have hzz : ∀ c : Nat, 100 ≤ c ∧ c ≠ 121 ∧ c ≠ 109 → g194 c 0 = 0 := fun c hc => by rw [hfr9 c 0 hc.2.2]; exact z100 c 0 ⟨hc.1, hc.2.1⟩
        have h121 := hfr9 121 0 (by decide)
        have z_own : ty Γ188 h0 0 := (hG.2.2.2 _ List.mem_cons_self).2.1
        have hx199 : ext Γ188 (va_up Γ188 h0 (30, 0)) := ext.up z_own
        have hG := tp_adopt (t := (30, 0)) hG (by rw [TP_30 rfl]; exact ⟨_, rfl, rfl, fun k hk => match k, hk with
              | 0, _ => (by show vZ (g194 100 0) _; exact ⟨_, rfl, by exact (hzz 100 (by decide)).symm⟩)
              | 1, _ => (by show vZ (g194 101 0) _; exact ⟨_, rfl, by exact (hzz 101 (by decide)).symm⟩)
              | 2, _ => (by show vR _ 102 _; exact ⟨_, rfl, hx199.one t_q3 (by decide)⟩)
              | 3, _ => (by show vR _ 103 _; exact ⟨_, rfl, hx199.one t_q10 (by decide)⟩)
              | 4, _ => (by show vZ (g194 104 0) _; exact ⟨_, rfl, by exact (hzz 104 (by decide)).symm⟩)
              | 5, _ => (by show vR _ 105 _; exact ⟨_, rfl, hx199.one t_q17 (by decide)⟩)
              | 6, _ => (by show vR _ 106 _; exact ⟨_, rfl, hx199.one t_q24 (by decide)⟩)
              | 7, _ => (by show vR _ 107 _; exact ⟨_, rfl, hx199.one t_q31 (by decide)⟩)
              | 8, _ => (by show vR _ 108 _; exact ⟨_, rfl, hx199.one t_q38 (by decide)⟩)
              | 9, _ => (by show vR _ 109 _; exact ⟨_, rfl, hx199.one t_q45 (by decide)⟩)
              | 10, _ => (by show vR _ 110 _; exact ⟨_, rfl, hx199.one t_q52 (by decide)⟩)
              | 11, _ => (by show vZ (g194 111 0) _; exact ⟨_, rfl, by exact (hzz 111 (by decide)).symm⟩)
              | 12, _ => (by show vZ (g194 112 0) _; exact ⟨_, rfl, by exact (hzz 112 (by decide)).symm⟩)
              | 13, _ => (by show vR _ 113 _; exact ⟨_, rfl, hx199.one t_q59 (by decide)⟩)
              | 14, _ => (by show vZ (g194 114 0) _; exact ⟨_, rfl, by exact (hzz 114 (by decide)).symm⟩)
              | 15, _ => (by show vZ (g194 115 0) _; exact ⟨_, rfl, by exact (hzz 115 (by decide)).symm⟩)
              | 16, _ => (by show vZ (g194 116 0) _; exact ⟨_, rfl, by exact (hzz 116 (by decide)).symm⟩)
              | 17, _ => (by show vZ (g194 117 0) _; exact ⟨_, rfl, by exact (hzz 117 (by decide)).symm⟩)
              | 18, _ => (by show vZ (g194 118 0) _; exact ⟨_, rfl, by exact (hzz 118 (by decide)).symm⟩)
              | 19, _ => (by show vZ (g194 119 0) _; exact ⟨_, rfl, by exact (hzz 119 (by decide)).symm⟩)
              | 20, _ => (by show vZ (g194 120 0) _; exact ⟨_, rfl, by exact (hzz 120 (by decide)).symm⟩)
              | 21, _ => (by show vZ (g194 121 0) _; exact ⟨_, rfl, by omega⟩)
              | 22, _ => (by show vZ (g194 122 0) _; exact ⟨_, rfl, by exact (hzz 122 (by decide)).symm⟩)
              | 23, _ => (by show vR _ 123 _; exact ⟨_, rfl, hx199.one t_q68 (by decide)⟩)
              | 24, _ => (by show vZ (g194 124 0) _; exact ⟨_, rfl, by exact (hzz 124 (by decide)).symm⟩)
              | 25, _ => (by show vR _ 125 _; exact ⟨_, rfl, hx199.one t_q75 (by decide)⟩)
              | 26, _ => (by show vZ (g194 126 0) _; exact ⟨_, rfl, by exact (hzz 126 (by decide)).symm⟩)
              | 27, _ => (by show vR _ 127 _; exact ⟨_, rfl, hx199.one t_q82 (by decide)⟩)
              | 28, _ => (by show vR _ 128 _; exact ⟨_, rfl, hx199.one t_q89 (by decide)⟩)
              | 29, _ => (by show vR _ 129 _; exact ⟨_, rfl, hx199.one t_q96 (by decide)⟩)
              | 30, _ => (by show vR _ 130 _; exact ⟨_, rfl, hx199.one t_q103 (by decide)⟩)
              | 31, _ => (by show vR _ 131 _; exact ⟨_, rfl, hx199.one t_q110 (by decide)⟩)
              | 32, _ => (by show vR _ 132 _; exact ⟨_, rfl, hx199.one t_q117 (by decide)⟩)
              | 33, _ => (by show vR _ 133 _; exact ⟨_, rfl, hx199.one t_q124 (by decide)⟩)
              | 34, _ => (by show vR _ 134 _; exact ⟨_, rfl, hx199.one t_q131 (by decide)⟩)
              | 35, _ => (by show vR _ 135 _; exact ⟨_, rfl, hx199.one t_q138 (by decide)⟩)
              | 36, _ => (by show vR _ 136 _; exact ⟨_, rfl, hx199.one t_q145 (by decide)⟩)
              | 37, _ => (by show vZ (g194 137 0) _; exact ⟨_, rfl, by exact (hzz 137 (by decide)).symm⟩)
              | 38, _ => (by show vR _ 138 _; exact ⟨_, rfl, hx199.one t_q152 (by decide)⟩)
              | 39, _ => (by show vR _ 139 _; exact ⟨_, rfl, hx199.one t_q159 (by decide)⟩)
              | 40, _ => (by show vR _ 140 _; exact ⟨_, rfl, hx199.one t_q166 (by decide)⟩)
              | 41, _ => (by show vZ (g194 141 0) _; exact ⟨_, rfl, by exact (hzz 141 (by decide)).symm⟩)
              | 42, _ => (by show vZ (g194 142 0) _; exact ⟨_, rfl, by exact (hzz 142 (by decide)).symm⟩)
              | 43, _ => (by show vZ (g194 143 0) _; exact ⟨_, rfl, by exact (hzz 143 (by decide)).symm⟩)
              | 44, _ => (by show vR _ 144 _; exact ⟨_, rfl, hx199.one t_q173 (by decide)⟩)
              | 45, _ => (by show vR _ 145 _; exact ⟨_, rfl, hx199.one t_q180 (by decide)⟩)
              | 46, _ => (by show vR _ 146 _; exact ⟨_, rfl, hx199.one t_q187 (by decide)⟩)
              | k + 47, h => absurd h (by omega)
            ⟩)
        obtain ⟨Γ200, eΓ200⟩ : ∃ z, z = va_up Γ188 h0 (30, 0) := ⟨_, rfl⟩
        rw [← eΓ200] at hG
        have hx201 : ext Γ188 Γ200 := by rw [eΓ200]; exact ext.up z_own
        have hU : Un Γ200 := by rw [eΓ200]; exact Un.up hU hL190 (by show (30 : Nat) ≠ 0; decide) (fun _ => (nmap (by show (30 : Nat) ≠ 146; decide) (nmap (by show (30 : Nat) ≠ 145; decide) (nmap (by show (30 : Nat) ≠ 144; decide) (nmap (by show (30 : Nat) ≠ 140; decide) (nmap (by show (30 : Nat) ≠ 139; decide) (nmap (by show (30 : Nat) ≠ 138; decide) (nmap (by show (30 : Nat) ≠ 136; decide) (nmap (by show (30 : Nat) ≠ 135; decide) (nmap (by show (30 : Nat) ≠ 134; decide) (nmap (by show (30 : Nat) ≠ 133; decide) (nmap (by show (30 : Nat) ≠ 132; decide) (nmap (by show (30 : Nat) ≠ 131; decide) (nmap (by show (30 : Nat) ≠ 130; decide) (nmap (by show (30 : Nat) ≠ 129; decide) (nmap (by show (30 : Nat) ≠ 128; decide) (nmap (by show (30 : Nat) ≠ 127; decide) (nmap (by show (30 : Nat) ≠ 125; decide) (nmap (by show (30 : Nat) ≠ 123; decide) (nmap (by show (30 : Nat) ≠ 113; decide) (nmap (by show (30 : Nat) ≠ 110; decide) (nmap (by show (30 : Nat) ≠ 109; decide) (nmap (by show (30 : Nat) ≠ 108; decide) (nmap (by show (30 : Nat) ≠ 107; decide) (nmap (by show (30 : Nat) ≠ 106; decide) (nmap (by show (30 : Nat) ≠ 105; decide) (nmap (by show (30 : Nat) ≠ 103; decide) (nmap (by show (30 : Nat) ≠ 102; decide) (hn 30 (by decide)))))))))))))))))))))))))))))) (fun h => absurd (show sg2 30 = true from h) (by decide))
        have hL202 : tyIn Γ200 ((30, 0) :: ((146, 0) :: ((145, 0) :: ((144, 0) :: ((140, 0) :: ((139, 0) :: ((138, 0) :: ((136, 0) :: ((135, 0) :: ((134, 0) :: ((133, 0) :: ((132, 0) :: ((131, 0) :: ((130, 0) :: ((129, 0) :: ((128, 0) :: ((127, 0) :: ((125, 0) :: ((123, 0) :: ((113, 0) :: ((110, 0) :: ((109, 0) :: ((108, 0) :: ((107, 0) :: ((106, 0) :: ((105, 0) :: ((103, 0) :: ((102, 0) :: L)))))))))))))))))))))))))))) := by rw [eΓ200]; exact hL190.up
        have hX203 : ext Γ Γ200 := ext.trans hX191 hx201
        replace t_q3 : ty Γ200 q3 102 := hx201.one t_q3 (by decide)
        replace t_q10 : ty Γ200 q10 103 := hx201.one t_q10 (by decide)
        replace t_q17 : ty Γ200 q17 105 := hx201.one t_q17 (by decide)
        replace t_q24 : ty Γ200 q24 106 := hx201.one t_q24 (by decide)
        replace t_q31 : ty Γ200 q31 107 := hx201.one t_q31 (by decide)
        replace t_q38 : ty Γ200 q38 108 := hx201.one t_q38 (by decide)
        replace t_q45 : ty Γ200 q45 109 := hx201.one t_q45 (by decide)
        replace t_q52 : ty Γ200 q52 110 := hx201.one t_q52 (by decide)
        replace t_q59 : ty Γ200 q59 113 := hx201.one t_q59 (by decide)
        replace t_q68 : ty Γ200 q68 123 := hx201.one t_q68 (by decide)
        replace t_q75 : ty Γ200 q75 125 := hx201.one t_q75 (by decide)
        replace t_q82 : ty Γ200 q82 127 := hx201.one t_q82 (by decide)
        replace t_q89 : ty Γ200 q89 128 := hx201.one t_q89 (by decide)
        replace t_q96 : ty Γ200 q96 129 := hx201.one t_q96 (by decide)
        replace t_q103 : ty Γ200 q103 130 := hx201.one t_q103 (by decide)
        replace t_q110 : ty Γ200 q110 131 := hx201.one t_q110 (by decide)
        replace t_q117 : ty Γ200 q117 132 := hx201.one t_q117 (by decide)
        replace t_q124 : ty Γ200 q124 133 := hx201.one t_q124 (by decide)
        replace t_q131 : ty Γ200 q131 134 := hx201.one t_q131 (by decide)
        replace t_q138 : ty Γ200 q138 135 := hx201.one t_q138 (by decide)
        replace t_q145 : ty Γ200 q145 136 := hx201.one t_q145 (by decide)
        replace t_q152 : ty Γ200 q152 138 := hx201.one t_q152 (by decide)
        replace t_q159 : ty Γ200 q159 139 := hx201.one t_q159 (by decide)
        replace t_q166 : ty Γ200 q166 140 := hx201.one t_q166 (by decide)
        replace t_q173 : ty Γ200 q173 144 := hx201.one t_q173 (by decide)
        replace t_q180 : ty Γ200 q180 145 := hx201.one t_q180 (by decide)
        replace t_q187 : ty Γ200 q187 146 := hx201.one t_q187 (by decide)
        have t_h0 : ty Γ200 h0 30 := by rw [eΓ200]; unfold ty; rw [va_up_self]
        clear z_own
        refine W.widen (k := 27) (n := 3734) (by omega) (by omega) ?_
        exact W.vret hx hb hr (fun t ht hW => ⟨⟨(Γ200, g194), rfl, ⟨hX203, hU, hL202, t_h0, (fun c j h109 => by (try dsimp only); rw [hf195 c j h109]), (show g194 109 = fz (g 109) 0 (-1) 318 from (by rw [hq0]; rw [show k.toInt.toNat = 318 by omega]))⟩, ok2 ht hG⟩, hS.F ht⟩) hS.2.2 dX9_init_259
      · skip
        refine lv_aload_n hx hb dX9_init_246 rfl (lv_at hl 1 rfl) ?_
        refine rg_X9 hx hb hA hE hG hown 9 (by decide) wd_4_139 rfl (.ref q45) rfl dX9_init_247 ?_
        refine lv_iload_n hx hb dX9_init_250 rfl (lv_at hl 0 rfl) ?_
        refine ty_iconst hx hb (-1) dX9_init_251 (by decide) (fun x204 h205 => ?_)
        refine ast_mI hx hb hE hG hS hU 9 rfl (n := 318) rfl (lo := -2147483648) (hi := 2147483647) rfl rfl rfl t_q45 (rgD _) (by omega) dX9_init_252 (fun H locs hG hS => ?_)
        obtain ⟨x206, h207⟩ : ∃ y : Int32, y = k + Int32.ofInt (1) := ⟨_, rfl⟩
        try have h208 : x206.toInt = k.toInt + (1) := ty_inc h207 (by decide) (by omega) (by omega)
        refine lv_iinc (v := x206) (lv' := [(1, .int x206), (0, .ref h0)]) hx hb dX9_init_253 hl (k := 0) rfl h207.symm (by decide) rfl (fun ls hl => ?_)
        refine lv_goto (tgt := 239) hx hb dX9_init_256 (by decide) ?_
        exact ih_239 x206 (gs g194 109 k.toInt.toNat x204.toInt) _ _ ls (by omega) (by omega) (fun c j h109 => by rw [gs_c _ _ _ _ h109, hf195 c j h109]) (by rw [pz_gs]; exact fz_s hq0 (by omega) (by omega) (by omega)) hG hS (lv_sub hl [0, 1] rfl)
  exact L_239 ((318 - x192.toInt) + 1).toNat x192 g _ _ ls (by omega) (by omega) (fun c j _ => rfl) (fz_0 (by omega)) hG hS (lv_sub hl [0, 1] rfl)
