set_option maxHeartbeats 4000000 in
set_option maxRecDepth 100000 in
/-- WeekBank.<init>:  -/
theorem k_X8_init (l : Launch) (dC : Nat → ClassId) (dI : Nat → Nat → Nat) (dA : Nat → ClassId) (sz : Nat) (X : va_W) (Γ : ty_G) (hU : Un Γ) (g : gh) (h0 : Nat) (hL : tyIn Γ []) (zg : ∀ c j : Nat, c = 19 ∨ c = 33 ∨ c = 34 ∨ c = 35 ∨ c = 36 → g c j = 0) (z1 : g 1 0 = 0 ∧ g 2 0 = 0 ∧ g 3 0 = 0 ∧ g 4 0 = 0 ∧ g 5 0 = 0 ∧ g 7 0 = 0 ∧ g 8 0 = 0 ∧ g 30 0 = 0 ∧ g 31 0 = 0 ∧ g 32 0 = 0 ∧ g 6 0 = 0 ∧ g 9 0 = 0 ∧ g 16 0 = 0 ∧ g 15 0 = 0 ∧ g 17 0 = 0 ∧ g 18 0 = 0) (z2 : g 14 0 = -1 ∧ g 13 0 = 0 ∧ g 12 0 = 1 ∧ g 10 0 = 0 ∧ g 11 0 = 0 ∧ g 10 1 = 0 ∧ g 11 1 = 0) : Met l yX8_init (.code yX8_init cX8_init 1 (Option.none : Option Jvm.ClassFile.FieldType) :: AL) ({ frames := 2, cells := 24, slots := 6604, locals := 43 }) (PCx dC dI dA sz ((h0, .inr (8, dv_X8)) :: X) Γ g [.ref h0]) (va_Qv (fun (u : (ty_G × gh)) => ext Γ u.1 ∧ Un u.1 ∧ tyIn u.1 ((1, 0) :: ((9, 0) :: ((24, 0) :: ((23, 0) :: ((23, 0) :: ((8, 0) :: ((22, 0) :: ((22, 0) :: ((21, 0) :: ((20, 0) :: ((19, 0) :: ((6, 1) :: ((26, 1) :: ((17, 1) :: ((16, 1) :: ((6, 0) :: ((26, 0) :: ((17, 0) :: ((16, 0) :: ((7, 0) :: ((18, 0) :: ((12, 0) :: ((11, 0) :: ((10, 0) :: [])))))))))))))))))))))))) ∧ (u.1 h0).1 = 1 ∧ u.2 = g) (okB dC dI dA sz X) (ty_A sz)) 24 6604 (ty_A sz) := by
  refine Met.ofW (cc := cX8_init) (maxL := 1) (ret := (Option.none : Option Jvm.ClassFile.FieldType)) (by decide) rfl ?_
  intro p e s m args below meth c s₁ B hml hv
  obtain ⟨rfl, hG, hE⟩ := hv
  have hx := B.exec
  have hb := B.bytes
  have hr := B.returns
  have hts := atoms_spec B.pre
  have hA : ∀ w ∈ AL, w.before _ s = true := fun w h => hts w (List.mem_cons_of_mem _ h)
  have hown : s.vm.findClass RX8 = some m.cls := findClass_of_methodNamed B.named
  have hlocks := B.notSynchronized
  have hin : meth.name = "<init>" := (name_of_methodNamed B.named B.method).1
  have hS : va_S (ty_A sz) s.heap s.heap [] := va_S.rf
  have hl := lv_entry ([.ref h0]) (n := 1) (Nat.le_of_ble_eq_true rfl)
  rw [lg_entry_eq]
  generalize (lg_sl ([.ref h0]) ++ List.replicate (1 - (lg_sl ([.ref h0])).length) Slot.unset).toArray = ls at hl ⊢
  have hl : lv_has ls 1 [(0, .ref h0)] := hl
  refine lv_aload_n hx hb dX8_init_0 rfl (lv_at hl 0 rfl) ?_
  refine W.objInit hx hb hown (hA _ wd_1_27) (hA _ wd_1_28) (hA _ wd_1_29) rfl (by rw [hml]; exact hl.1) rfl dX8_init_1 (Nat.le_of_ble_eq_true rfl) (Nat.le_of_ble_eq_true rfl) ?_
  refine W.eq (g2 := F0 m 4 ls []) rfl ?_
  refine lv_aload_n hx hb dX8_init_4 rfl (lv_at hl 0 rfl) ?_
  refine ty_bipush hx hb (6) dX8_init_5 (by decide) (fun x1 h2 => ?_)
  refine new_R4 hx hb hA hE hG hS hown wd_1_30 (N := 6) (by omega) (by decide) (Nat.le_of_ble_eq_true rfl) (Nat.le_of_ble_eq_true rfl) (10, 0) (fun Γ' => by rw [TP_10 rfl]; exact ⟨_, rfl, fun j hj => ⟨fun b h => (by cases h), fun h => absurd h (by rw [zg 33 0 (by decide)]; omega)⟩⟩) dX8_init_7 (fun q3 H (z_q3 : ty Γ q3 0) s_q3 e_q3 hG hS => ?_)
  obtain ⟨Γ4, eΓ4⟩ : ∃ z, z = va_up Γ q3 (10, 0) := ⟨_, rfl⟩
  rw [← eΓ4] at hG
  have hx5 : ext Γ Γ4 := by rw [eΓ4]; exact ext.up z_q3
  have hU : Un Γ4 := by rw [eΓ4]; exact Un.up hU hL (by show (10 : Nat) ≠ 0; decide) (fun _ => by decide) (fun _ => by decide)
  have hL6 : tyIn Γ4 ((10, 0) :: []) := by rw [eΓ4]; exact hL.up
  have hX7 : ext Γ Γ4 := ext.trans ext.rf hx5
  have t_q3 : ty Γ4 q3 10 := by rw [eΓ4]; unfold ty; rw [va_up_self]
  clear z_q3 s_q3 e_q3
  refine rw_X8 hx hb hA hE hG hS hown hin rfl 0 (by decide) wd_1_157 rfl (ty := .array (.object "WeekBank$Flat")) (tyX8_ok 0 (by decide)) rfl rfl (Nat.le_of_ble_eq_true rfl) dX8_init_10 (fun H locs hG hS => ?_)
  replace hG : ty_ok (dC, dI) vwCl Γ4 (TP dA Γ4 g) sz ((h0, .inr (8, [.ref q3, .int 0, .null, .int 0, .null, .int 0, .null, .null, .null, .int 0, .int 0, .null, .null])) :: X) H := hG
  refine lv_aload_n hx hb dX8_init_13 rfl (lv_at hl 0 rfl) ?_
  refine ty_iconst hx hb (0) dX8_init_14 (by decide) (fun x8 h9 => ?_)
  refine rw_X8 hx hb hA hE hG hS hown hin rfl 1 (by decide) wd_1_158 rfl (ty := .int) (tyX8_ok 1 (by decide)) rfl rfl (Nat.le_of_ble_eq_true rfl) dX8_init_15 (fun H locs hG hS => ?_)
  replace hG : ty_ok (dC, dI) vwCl Γ4 (TP dA Γ4 g) sz ((h0, .inr (8, [.ref q3, .int x8, .null, .int 0, .null, .int 0, .null, .null, .null, .int 0, .int 0, .null, .null])) :: X) H := hG
  refine lv_aload_n hx hb dX8_init_18 rfl (lv_at hl 0 rfl) ?_
  refine ty_bipush hx hb (10) dX8_init_19 (by decide) (fun x10 h11 => ?_)
  refine new_R5 hx hb hA hE hG hS hown wd_1_32 (N := 10) (by omega) (by decide) (Nat.le_of_ble_eq_true rfl) (Nat.le_of_ble_eq_true rfl) (11, 0) (fun Γ' => by rw [TP_11 rfl]; exact ⟨_, rfl, fun j hj => ⟨fun b h => (by cases h), fun h => absurd h (by rw [zg 34 0 (by decide)]; omega)⟩⟩) dX8_init_21 (fun q12 H (z_q12 : ty Γ4 q12 0) s_q12 e_q12 hG hS => ?_)
  obtain ⟨Γ13, eΓ13⟩ : ∃ z, z = va_up Γ4 q12 (11, 0) := ⟨_, rfl⟩
  rw [← eΓ13] at hG
  have hx14 : ext Γ4 Γ13 := by rw [eΓ13]; exact ext.up z_q12
  have hU : Un Γ13 := by rw [eΓ13]; exact Un.up hU hL6 (by show (11 : Nat) ≠ 0; decide) (fun _ => by decide) (fun _ => by decide)
  have hL15 : tyIn Γ13 ((11, 0) :: ((10, 0) :: [])) := by rw [eΓ13]; exact hL6.up
  have hX16 : ext Γ Γ13 := ext.trans hX7 hx14
  replace t_q3 : ty Γ13 q3 10 := hx14.one t_q3 (by decide)
  have t_q12 : ty Γ13 q12 11 := by rw [eΓ13]; unfold ty; rw [va_up_self]
  clear z_q12 s_q12 e_q12
  refine rw_X8 hx hb hA hE hG hS hown hin rfl 2 (by decide) wd_1_159 rfl (ty := .array (.object "WeekBank$Owner")) (tyX8_ok 2 (by decide)) rfl rfl (Nat.le_of_ble_eq_true rfl) dX8_init_24 (fun H locs hG hS => ?_)
  replace hG : ty_ok (dC, dI) vwCl Γ13 (TP dA Γ13 g) sz ((h0, .inr (8, [.ref q3, .int x8, .ref q12, .int 0, .null, .int 0, .null, .null, .null, .int 0, .int 0, .null, .null])) :: X) H := hG
  refine lv_aload_n hx hb dX8_init_27 rfl (lv_at hl 0 rfl) ?_
  refine ty_iconst hx hb (0) dX8_init_28 (by decide) (fun x17 h18 => ?_)
  refine rw_X8 hx hb hA hE hG hS hown hin rfl 3 (by decide) wd_1_160 rfl (ty := .int) (tyX8_ok 3 (by decide)) rfl rfl (Nat.le_of_ble_eq_true rfl) dX8_init_29 (fun H locs hG hS => ?_)
  replace hG : ty_ok (dC, dI) vwCl Γ13 (TP dA Γ13 g) sz ((h0, .inr (8, [.ref q3, .int x8, .ref q12, .int x17, .null, .int 0, .null, .null, .null, .int 0, .int 0, .null, .null])) :: X) H := hG
  refine lv_aload_n hx hb dX8_init_32 rfl (lv_at hl 0 rfl) ?_
  refine ty_sipush hx hb (200) dX8_init_33 (by decide) (fun x19 h20 => ?_)
  refine new_R6 hx hb hA hE hG hS hown wd_1_34 (N := 200) (by omega) (by decide) (Nat.le_of_ble_eq_true rfl) (Nat.le_of_ble_eq_true rfl) (12, 0) (fun Γ' => by rw [TP_12 rfl]; exact ⟨_, rfl, fun j hj => ⟨fun b h => (by cases h), fun h => absurd h (by rw [zg 35 0 (by decide)]; omega)⟩⟩) dX8_init_36 (fun q21 H (z_q21 : ty Γ13 q21 0) s_q21 e_q21 hG hS => ?_)
  obtain ⟨Γ22, eΓ22⟩ : ∃ z, z = va_up Γ13 q21 (12, 0) := ⟨_, rfl⟩
  rw [← eΓ22] at hG
  have hx23 : ext Γ13 Γ22 := by rw [eΓ22]; exact ext.up z_q21
  have hU : Un Γ22 := by rw [eΓ22]; exact Un.up hU hL15 (by show (12 : Nat) ≠ 0; decide) (fun _ => by decide) (fun _ => by decide)
  have hL24 : tyIn Γ22 ((12, 0) :: ((11, 0) :: ((10, 0) :: []))) := by rw [eΓ22]; exact hL15.up
  have hX25 : ext Γ Γ22 := ext.trans hX16 hx23
  replace t_q3 : ty Γ22 q3 10 := hx23.one t_q3 (by decide)
  replace t_q12 : ty Γ22 q12 11 := hx23.one t_q12 (by decide)
  have t_q21 : ty Γ22 q21 12 := by rw [eΓ22]; unfold ty; rw [va_up_self]
  clear z_q21 s_q21 e_q21
  refine rw_X8 hx hb hA hE hG hS hown hin rfl 4 (by decide) wd_1_161 rfl (ty := .array (.object "WeekBank$Gift")) (tyX8_ok 4 (by decide)) rfl rfl (Nat.le_of_ble_eq_true rfl) dX8_init_39 (fun H locs hG hS => ?_)
  replace hG : ty_ok (dC, dI) vwCl Γ22 (TP dA Γ22 g) sz ((h0, .inr (8, [.ref q3, .int x8, .ref q12, .int x17, .ref q21, .int 0, .null, .null, .null, .int 0, .int 0, .null, .null])) :: X) H := hG
  refine lv_aload_n hx hb dX8_init_42 rfl (lv_at hl 0 rfl) ?_
  refine ty_iconst hx hb (0) dX8_init_43 (by decide) (fun x26 h27 => ?_)
  refine rw_X8 hx hb hA hE hG hS hown hin rfl 5 (by decide) wd_1_162 rfl (ty := .int) (tyX8_ok 5 (by decide)) rfl rfl (Nat.le_of_ble_eq_true rfl) dX8_init_44 (fun H locs hG hS => ?_)
  replace hG : ty_ok (dC, dI) vwCl Γ22 (TP dA Γ22 g) sz ((h0, .inr (8, [.ref q3, .int x8, .ref q12, .int x17, .ref q21, .int x26, .null, .null, .null, .int 0, .int 0, .null, .null])) :: X) H := hG
  refine lv_aload_n hx hb dX8_init_47 rfl (lv_at hl 0 rfl) ?_
  refine new_X4 hx hb hA hE hG hS hown wd_1_36 wd_1_37 wd_1_2 (Nat.le_of_ble_eq_true rfl) (Nat.le_of_ble_eq_true rfl) dX8_init_48 (fun q28 H z_q28 s_q28 e_q28 hG hS => ?_)
  clear z_q28 s_q28 e_q28
  refine lv_dup hx hb dX8_init_51 rfl ?_
  refine cVB (va_runIN (As := []) (rest := [.ref q28, .ref h0]) ⟨hx, hb, hml, hown, hA⟩ (k_X4_init l dC dI dA sz ((h0, .inr (8, [.ref q3, .int x8, .ref q12, .int x17, .ref q21, .int x26, .null, .null, .null, .int 0, .int 0, .null, .null])) :: X) Γ22 hU g q28  ((12, 0) :: ((11, 0) :: ((10, 0) :: []))) hL24 (by decide)  (fun c j h => zg c j (Or.inl h)) (by omega)) ⟨va_cnB 0 hA (al_A wd_1_40) rfl rfl rfl hE.2.1.1 (hA _ wd_1_2) (by decide +kernel) ⟨Nat.le_of_ble_eq_true rfl, Nat.le_of_ble_eq_true rfl⟩, rfl, hA _ wd_1_39⟩ ⟨bl, fun U hU9 hW9 => ⟨rfl, by rw [hU9]; exact hG, hE.go hS hU9 hW9⟩⟩ rfl rfl hl.1 rfl (lv_room (Nat.le_of_ble_eq_true rfl)) dX8_init_52 ⟨Nat.le_of_ble_eq_true rfl, Nat.le_of_ble_eq_true rfl⟩) hS (fun u29 H locs w30 hG hS => ?_)
  obtain ⟨Γ31, g32⟩ := u29
  dsimp only at w30 hG
  obtain ⟨hx33, hU, hL34, t_q28, eu37⟩ := w30
  rw [eu37] at hG
  replace t_q28 : ty Γ31 q28 7 := t_q28
  have hL34 : tyIn Γ31 ((7, 0) :: ((18, 0) :: ((12, 0) :: ((11, 0) :: ((10, 0) :: []))))) := hL34
  have hX38 : ext Γ Γ31 := ext.trans hX25 hx33
  replace t_q3 : ty Γ31 q3 10 := hx33.one t_q3 (by decide)
  replace t_q12 : ty Γ31 q12 11 := hx33.one t_q12 (by decide)
  replace t_q21 : ty Γ31 q21 12 := hx33.one t_q21 (by decide)
  refine rw_X8 hx hb hA hE hG hS hown hin rfl 6 (by decide) wd_1_163 rfl (ty := .object "WeekBank$Reader") (tyX8_ok 6 (by decide)) rfl rfl (Nat.le_of_ble_eq_true rfl) dX8_init_55 (fun H locs hG hS => ?_)
  replace hG : ty_ok (dC, dI) vwCl Γ31 (TP dA Γ31 g) sz ((h0, .inr (8, [.ref q3, .int x8, .ref q12, .int x17, .ref q21, .int x26, .ref q28, .null, .null, .int 0, .int 0, .null, .null])) :: X) H := hG
  refine lv_aload_n hx hb dX8_init_58 rfl (lv_at hl 0 rfl) ?_
  refine new_X6 hx hb hA hE hG hS hown wd_1_71 wd_1_72 wd_1_3 (Nat.le_of_ble_eq_true rfl) (Nat.le_of_ble_eq_true rfl) dX8_init_59 (fun q39 H z_q39 s_q39 e_q39 hG hS => ?_)
  clear z_q39 s_q39 e_q39
  refine lv_dup hx hb dX8_init_62 rfl ?_
  refine cVB (va_runI (As := []) (rest := [.ref q39, .ref h0]) ⟨hx, hb, hml, hown, hA⟩ (k_X6_init l dC dI dA sz ((h0, .inr (8, [.ref q3, .int x8, .ref q12, .int x17, .ref q21, .int x26, .ref q28, .null, .null, .int 0, .int 0, .null, .null])) :: X) Γ31 hU g q39 0 ((7, 0) :: ((18, 0) :: ((12, 0) :: ((11, 0) :: ((10, 0) :: []))))) hL34 (by decide) (by omega)) ⟨callB_of 0 hA (al_A wd_1_75) rfl rfl rfl (hA _ wd_1_3) (hA _ wd_1_73) (by decide +kernel) ⟨Nat.le_of_ble_eq_true rfl, Nat.le_of_ble_eq_true rfl⟩, rfl, hA _ wd_1_74⟩ ⟨bl, fun U hU9 hW9 => ⟨rfl, by rw [hU9]; exact hG, hE.go hS hU9 hW9⟩⟩ rfl rfl hl.1 rfl (lv_room (Nat.le_of_ble_eq_true rfl)) dX8_init_63 ⟨Nat.le_of_ble_eq_true rfl, Nat.le_of_ble_eq_true rfl⟩) hS (fun u40 H locs w41 hG hS => ?_)
  obtain ⟨Γ42, g43⟩ := u40
  dsimp only at w41 hG
  obtain ⟨hx44, hU, hL45, t_q39, eu48⟩ := w41
  rw [eu48] at hG
  have hL45 : tyIn Γ42 ((6, 0) :: ((26, 0) :: ((17, 0) :: ((16, 0) :: ((7, 0) :: ((18, 0) :: ((12, 0) :: ((11, 0) :: ((10, 0) :: []))))))))) := hL45
  have hX49 : ext Γ Γ42 := ext.trans hX38 hx44
  replace t_q3 : ty Γ42 q3 10 := hx44.one t_q3 (by decide)
  replace t_q12 : ty Γ42 q12 11 := hx44.one t_q12 (by decide)
  replace t_q21 : ty Γ42 q21 12 := hx44.one t_q21 (by decide)
  replace t_q28 : ty Γ42 q28 7 := hx44.one t_q28 (by decide)
  refine rw_X8 hx hb hA hE hG hS hown hin rfl 7 (by decide) wd_1_164 rfl (ty := .object "WeekBank$Rules") (tyX8_ok 7 (by decide)) rfl rfl (Nat.le_of_ble_eq_true rfl) dX8_init_66 (fun H locs hG hS => ?_)
  replace hG : ty_ok (dC, dI) vwCl Γ42 (TP dA Γ42 g) sz ((h0, .inr (8, [.ref q3, .int x8, .ref q12, .int x17, .ref q21, .int x26, .ref q28, .ref q39, .null, .int 0, .int 0, .null, .null])) :: X) H := hG
  refine lv_aload_n hx hb dX8_init_69 rfl (lv_at hl 0 rfl) ?_
  refine new_X6 hx hb hA hE hG hS hown wd_1_71 wd_1_72 wd_1_3 (Nat.le_of_ble_eq_true rfl) (Nat.le_of_ble_eq_true rfl) dX8_init_70 (fun q50 H z_q50 s_q50 e_q50 hG hS => ?_)
  clear z_q50 s_q50 e_q50
  refine lv_dup hx hb dX8_init_73 rfl ?_
  refine cVB (va_runI (As := []) (rest := [.ref q50, .ref h0]) ⟨hx, hb, hml, hown, hA⟩ (k_X6_init l dC dI dA sz ((h0, .inr (8, [.ref q3, .int x8, .ref q12, .int x17, .ref q21, .int x26, .ref q28, .ref q39, .null, .int 0, .int 0, .null, .null])) :: X) Γ42 hU g q50 1 ((6, 0) :: ((26, 0) :: ((17, 0) :: ((16, 0) :: ((7, 0) :: ((18, 0) :: ((12, 0) :: ((11, 0) :: ((10, 0) :: []))))))))) hL45 (by decide) (by omega)) ⟨callB_of 0 hA (al_A wd_1_75) rfl rfl rfl (hA _ wd_1_3) (hA _ wd_1_73) (by decide +kernel) ⟨Nat.le_of_ble_eq_true rfl, Nat.le_of_ble_eq_true rfl⟩, rfl, hA _ wd_1_74⟩ ⟨bl, fun U hU9 hW9 => ⟨rfl, by rw [hU9]; exact hG, hE.go hS hU9 hW9⟩⟩ rfl rfl hl.1 rfl (lv_room (Nat.le_of_ble_eq_true rfl)) dX8_init_74 ⟨Nat.le_of_ble_eq_true rfl, Nat.le_of_ble_eq_true rfl⟩) hS (fun u51 H locs w52 hG hS => ?_)
  obtain ⟨Γ53, g54⟩ := u51
  dsimp only at w52 hG
  obtain ⟨hx55, hU, hL56, t_q50, eu59⟩ := w52
  rw [eu59] at hG
  have hL56 : tyIn Γ53 ((6, 1) :: ((26, 1) :: ((17, 1) :: ((16, 1) :: ((6, 0) :: ((26, 0) :: ((17, 0) :: ((16, 0) :: ((7, 0) :: ((18, 0) :: ((12, 0) :: ((11, 0) :: ((10, 0) :: []))))))))))))) := hL56
  have hX60 : ext Γ Γ53 := ext.trans hX49 hx55
  replace t_q3 : ty Γ53 q3 10 := hx55.one t_q3 (by decide)
  replace t_q12 : ty Γ53 q12 11 := hx55.one t_q12 (by decide)
  replace t_q21 : ty Γ53 q21 12 := hx55.one t_q21 (by decide)
  replace t_q28 : ty Γ53 q28 7 := hx55.one t_q28 (by decide)
  replace t_q39 : Γ53 q39 = (6, 0) := hx55.two t_q39 (by show (6 : Nat) ≠ 0; decide)
  refine rw_X8 hx hb hA hE hG hS hown hin rfl 8 (by decide) wd_1_165 rfl (ty := .object "WeekBank$Rules") (tyX8_ok 8 (by decide)) rfl rfl (Nat.le_of_ble_eq_true rfl) dX8_init_77 (fun H locs hG hS => ?_)
  replace hG : ty_ok (dC, dI) vwCl Γ53 (TP dA Γ53 g) sz ((h0, .inr (8, [.ref q3, .int x8, .ref q12, .int x17, .ref q21, .int x26, .ref q28, .ref q39, .ref q50, .int 0, .int 0, .null, .null])) :: X) H := hG
  refine lv_aload_n hx hb dX8_init_80 rfl (lv_at hl 0 rfl) ?_
  refine ty_iconst hx hb (0) dX8_init_81 (by decide) (fun x61 h62 => ?_)
  refine rw_X8 hx hb hA hE hG hS hown hin rfl 9 (by decide) wd_1_166 rfl (ty := .int) (tyX8_ok 9 (by decide)) rfl rfl (Nat.le_of_ble_eq_true rfl) dX8_init_82 (fun H locs hG hS => ?_)
  replace hG : ty_ok (dC, dI) vwCl Γ53 (TP dA Γ53 g) sz ((h0, .inr (8, [.ref q3, .int x8, .ref q12, .int x17, .ref q21, .int x26, .ref q28, .ref q39, .ref q50, .int x61, .int 0, .null, .null])) :: X) H := hG
  refine lv_aload_n hx hb dX8_init_85 rfl (lv_at hl 0 rfl) ?_
  refine ty_iconst hx hb (0) dX8_init_86 (by decide) (fun x63 h64 => ?_)
  refine rw_X8 hx hb hA hE hG hS hown hin rfl 10 (by decide) wd_1_167 rfl (ty := .int) (tyX8_ok 10 (by decide)) rfl rfl (Nat.le_of_ble_eq_true rfl) dX8_init_87 (fun H locs hG hS => ?_)
  replace hG : ty_ok (dC, dI) vwCl Γ53 (TP dA Γ53 g) sz ((h0, .inr (8, [.ref q3, .int x8, .ref q12, .int x17, .ref q21, .int x26, .ref q28, .ref q39, .ref q50, .int x61, .int x63, .null, .null])) :: X) H := hG
  refine lv_aload_n hx hb dX8_init_90 rfl (lv_at hl 0 rfl) ?_
  refine new_X5 hx hb hA hE hG hS hown wd_1_100 wd_1_101 wd_1_5 (Nat.le_of_ble_eq_true rfl) (Nat.le_of_ble_eq_true rfl) dX8_init_91 (fun q65 H z_q65 s_q65 e_q65 hG hS => ?_)
  clear z_q65 s_q65 e_q65
  refine lv_dup hx hb dX8_init_94 rfl ?_
  refine cVB (va_runIN (As := []) (rest := [.ref q65, .ref h0]) ⟨hx, hb, hml, hown, hA⟩ (k_X5_init l dC dI dA sz ((h0, .inr (8, [.ref q3, .int x8, .ref q12, .int x17, .ref q21, .int x26, .ref q28, .ref q39, .ref q50, .int x61, .int x63, .null, .null])) :: X) Γ53 hU g q65  ((6, 1) :: ((26, 1) :: ((17, 1) :: ((16, 1) :: ((6, 0) :: ((26, 0) :: ((17, 0) :: ((16, 0) :: ((7, 0) :: ((18, 0) :: ((12, 0) :: ((11, 0) :: ((10, 0) :: []))))))))))))) hL56 (by decide)  (fun c j h => zg c j (by omega)) (by omega)) ⟨va_cnB 0 hA (al_A wd_1_104) rfl rfl rfl hE.2.1.2.1 (hA _ wd_1_5) (by decide +kernel) ⟨Nat.le_of_ble_eq_true rfl, Nat.le_of_ble_eq_true rfl⟩, rfl, hA _ wd_1_103⟩ ⟨bl, fun U hU9 hW9 => ⟨rfl, by rw [hU9]; exact hG, hE.go hS hU9 hW9⟩⟩ rfl rfl hl.1 rfl (lv_room (Nat.le_of_ble_eq_true rfl)) dX8_init_95 ⟨Nat.le_of_ble_eq_true rfl, Nat.le_of_ble_eq_true rfl⟩) hS (fun u66 H locs w67 hG hS => ?_)
  obtain ⟨Γ68, g69⟩ := u66
  dsimp only at w67 hG
  obtain ⟨hx70, hU, hL71, t_q65, eu74⟩ := w67
  rw [eu74] at hG
  replace t_q65 : ty Γ68 q65 8 := t_q65
  have hL71 : tyIn Γ68 ((8, 0) :: ((22, 0) :: ((22, 0) :: ((21, 0) :: ((20, 0) :: ((19, 0) :: ((6, 1) :: ((26, 1) :: ((17, 1) :: ((16, 1) :: ((6, 0) :: ((26, 0) :: ((17, 0) :: ((16, 0) :: ((7, 0) :: ((18, 0) :: ((12, 0) :: ((11, 0) :: ((10, 0) :: []))))))))))))))))))) := hL71
  have hX75 : ext Γ Γ68 := ext.trans hX60 hx70
  replace t_q3 : ty Γ68 q3 10 := hx70.one t_q3 (by decide)
  replace t_q12 : ty Γ68 q12 11 := hx70.one t_q12 (by decide)
  replace t_q21 : ty Γ68 q21 12 := hx70.one t_q21 (by decide)
  replace t_q28 : ty Γ68 q28 7 := hx70.one t_q28 (by decide)
  replace t_q39 : Γ68 q39 = (6, 0) := hx70.two t_q39 (by show (6 : Nat) ≠ 0; decide)
  replace t_q50 : Γ68 q50 = (6, 1) := hx70.two t_q50 (by show (6 : Nat) ≠ 0; decide)
  refine rw_X8 hx hb hA hE hG hS hown hin rfl 11 (by decide) wd_1_168 rfl (ty := .object "WeekBank$RingSearch") (tyX8_ok 11 (by decide)) rfl rfl (Nat.le_of_ble_eq_true rfl) dX8_init_98 (fun H locs hG hS => ?_)
  replace hG : ty_ok (dC, dI) vwCl Γ68 (TP dA Γ68 g) sz ((h0, .inr (8, [.ref q3, .int x8, .ref q12, .int x17, .ref q21, .int x26, .ref q28, .ref q39, .ref q50, .int x61, .int x63, .ref q65, .null])) :: X) H := hG
  refine lv_aload_n hx hb dX8_init_101 rfl (lv_at hl 0 rfl) ?_
  refine new_X0 hx hb hA hE hG hS hown wd_1_129 wd_1_130 wd_1_6 (Nat.le_of_ble_eq_true rfl) (Nat.le_of_ble_eq_true rfl) dX8_init_102 (fun q76 H z_q76 s_q76 e_q76 hG hS => ?_)
  clear z_q76 s_q76 e_q76
  refine lv_dup hx hb dX8_init_105 rfl ?_
  refine cVB (va_runIN (As := []) (rest := [.ref q76, .ref h0]) ⟨hx, hb, hml, hown, hA⟩ (k_X0_init l dC dI dA sz ((h0, .inr (8, [.ref q3, .int x8, .ref q12, .int x17, .ref q21, .int x26, .ref q28, .ref q39, .ref q50, .int x61, .int x63, .ref q65, .null])) :: X) Γ68 hU g q76  ((8, 0) :: ((22, 0) :: ((22, 0) :: ((21, 0) :: ((20, 0) :: ((19, 0) :: ((6, 1) :: ((26, 1) :: ((17, 1) :: ((16, 1) :: ((6, 0) :: ((26, 0) :: ((17, 0) :: ((16, 0) :: ((7, 0) :: ((18, 0) :: ((12, 0) :: ((11, 0) :: ((10, 0) :: []))))))))))))))))))) hL71 (by decide)  (by omega)) ⟨va_cnB 0 hA (al_A wd_1_133) rfl rfl rfl hE.2.1.2.2.1 (hA _ wd_1_6) (by decide +kernel) ⟨Nat.le_of_ble_eq_true rfl, Nat.le_of_ble_eq_true rfl⟩, rfl, hA _ wd_1_132⟩ ⟨bl, fun U hU9 hW9 => ⟨rfl, by rw [hU9]; exact hG, hE.go hS hU9 hW9⟩⟩ rfl rfl hl.1 rfl (lv_room (Nat.le_of_ble_eq_true rfl)) dX8_init_106 ⟨Nat.le_of_ble_eq_true rfl, Nat.le_of_ble_eq_true rfl⟩) hS (fun u77 H locs w78 hG hS => ?_)
  obtain ⟨Γ79, g80⟩ := u77
  dsimp only at w78 hG
  obtain ⟨hx81, hU, hL82, t_q76, eu85⟩ := w78
  rw [eu85] at hG
  replace t_q76 : ty Γ79 q76 9 := t_q76
  have hL82 : tyIn Γ79 ((9, 0) :: ((24, 0) :: ((23, 0) :: ((23, 0) :: ((8, 0) :: ((22, 0) :: ((22, 0) :: ((21, 0) :: ((20, 0) :: ((19, 0) :: ((6, 1) :: ((26, 1) :: ((17, 1) :: ((16, 1) :: ((6, 0) :: ((26, 0) :: ((17, 0) :: ((16, 0) :: ((7, 0) :: ((18, 0) :: ((12, 0) :: ((11, 0) :: ((10, 0) :: []))))))))))))))))))))))) := hL82
  have hX86 : ext Γ Γ79 := ext.trans hX75 hx81
  replace t_q3 : ty Γ79 q3 10 := hx81.one t_q3 (by decide)
  replace t_q12 : ty Γ79 q12 11 := hx81.one t_q12 (by decide)
  replace t_q21 : ty Γ79 q21 12 := hx81.one t_q21 (by decide)
  replace t_q28 : ty Γ79 q28 7 := hx81.one t_q28 (by decide)
  replace t_q39 : Γ79 q39 = (6, 0) := hx81.two t_q39 (by show (6 : Nat) ≠ 0; decide)
  replace t_q50 : Γ79 q50 = (6, 1) := hx81.two t_q50 (by show (6 : Nat) ≠ 0; decide)
  replace t_q65 : ty Γ79 q65 8 := hx81.one t_q65 (by decide)
  refine rw_X8 hx hb hA hE hG hS hown hin rfl 12 (by decide) wd_1_169 rfl (ty := .object "WeekBank$FeeRounds") (tyX8_ok 12 (by decide)) rfl rfl (Nat.le_of_ble_eq_true rfl) dX8_init_109 (fun H locs hG hS => ?_)
  replace hG : ty_ok (dC, dI) vwCl Γ79 (TP dA Γ79 g) sz ((h0, .inr (8, [.ref q3, .int x8, .ref q12, .int x17, .ref q21, .int x26, .ref q28, .ref q39, .ref q50, .int x61, .int x63, .ref q65, .ref q76])) :: X) H := hG
  have z_own : ty Γ79 h0 0 := (hG.2.2.2 _ List.mem_cons_self).2.1
  have hx87 : ext Γ79 (va_up Γ79 h0 (1, 0)) := ext.up z_own
  have hG := tp_adopt (t := (1, 0)) hG (by rw [TP_1 rfl]; exact ⟨_, rfl, rfl, fun k hk => match k, hk with
        | 0, _ => ⟨_, rfl, hx87.one t_q3 (by decide)⟩
        | 1, _ => ⟨_, rfl, by omega⟩
        | 2, _ => ⟨_, rfl, hx87.one t_q12 (by decide)⟩
        | 3, _ => ⟨_, rfl, by omega⟩
        | 4, _ => ⟨_, rfl, hx87.one t_q21 (by decide)⟩
        | 5, _ => ⟨_, rfl, by omega⟩
        | 6, _ => ⟨_, rfl, hx87.one t_q28 (by decide)⟩
        | 7, _ => ⟨_, _, rfl, hx87.two t_q39 (by show (6 : Nat) ≠ 0; decide), by omega, by decide⟩
        | 8, _ => ⟨_, _, rfl, hx87.two t_q50 (by show (6 : Nat) ≠ 0; decide), by omega, by decide⟩
        | 9, _ => ⟨_, rfl, by omega⟩
        | 10, _ => ⟨_, rfl, by omega⟩
        | 11, _ => ⟨_, rfl, hx87.one t_q65 (by decide)⟩
        | 12, _ => ⟨_, rfl, hx87.one t_q76 (by decide)⟩
      ⟩)
  obtain ⟨Γ88, eΓ88⟩ : ∃ z, z = va_up Γ79 h0 (1, 0) := ⟨_, rfl⟩
  rw [← eΓ88] at hG
  have hx89 : ext Γ79 Γ88 := by rw [eΓ88]; exact ext.up z_own
  have hU : Un Γ88 := by rw [eΓ88]; exact Un.up hU hL82 (by show (1 : Nat) ≠ 0; decide) (fun _ => by decide) (fun _ => by decide)
  have hL90 : tyIn Γ88 ((1, 0) :: ((9, 0) :: ((24, 0) :: ((23, 0) :: ((23, 0) :: ((8, 0) :: ((22, 0) :: ((22, 0) :: ((21, 0) :: ((20, 0) :: ((19, 0) :: ((6, 1) :: ((26, 1) :: ((17, 1) :: ((16, 1) :: ((6, 0) :: ((26, 0) :: ((17, 0) :: ((16, 0) :: ((7, 0) :: ((18, 0) :: ((12, 0) :: ((11, 0) :: ((10, 0) :: [])))))))))))))))))))))))) := by rw [eΓ88]; exact hL82.up
  have hX91 : ext Γ Γ88 := ext.trans hX86 hx89
  replace t_q3 : ty Γ88 q3 10 := hx89.one t_q3 (by decide)
  replace t_q12 : ty Γ88 q12 11 := hx89.one t_q12 (by decide)
  replace t_q21 : ty Γ88 q21 12 := hx89.one t_q21 (by decide)
  replace t_q28 : ty Γ88 q28 7 := hx89.one t_q28 (by decide)
  replace t_q39 : Γ88 q39 = (6, 0) := hx89.two t_q39 (by show (6 : Nat) ≠ 0; decide)
  replace t_q50 : Γ88 q50 = (6, 1) := hx89.two t_q50 (by show (6 : Nat) ≠ 0; decide)
  replace t_q65 : ty Γ88 q65 8 := hx89.one t_q65 (by decide)
  replace t_q76 : ty Γ88 q76 9 := hx89.one t_q76 (by decide)
  have t_h0 : ty Γ88 h0 1 := by rw [eΓ88]; unfold ty; rw [va_up_self]
  clear z_own
  refine W.widen (k := 24) (n := 6604) (by omega) (by omega) ?_
  exact W.vret hx hb hr (fun t ht hW => ⟨⟨(Γ88, g), rfl, ⟨hX91, hU, hL90, t_h0, rfl⟩, ok2 ht hG⟩, hS.F ht⟩) hS.2.2 dX8_init_112
