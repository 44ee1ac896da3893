set_option maxHeartbeats 4000000 in
set_option maxRecDepth 100000 in
/-- WeekBank.<init>:  -/
theorem k_X8_init (l : Launch) (dC : Nat → ClassId) (dI : Nat → Nat → Nat) (dA : Nat → ClassId) (sz : Nat) (X : va_W) (Γ : ty_G) (hU : Un Γ) (g : gh) (h0 : Nat) (hL : tyIn Γ []) (zg : ∀ c j : Nat, c = 19 ∨ c = 33 ∨ c = 34 ∨ c = 35 ∨ (80 ≤ c ∧ c ≤ 86) → g c j = 0) (z46 : ∀ j : Nat, g 46 j = -1) (z1 : g 1 0 = 0 ∧ g 2 0 = 0 ∧ g 3 0 = 0 ∧ g 4 0 = 0 ∧ g 5 0 = 0 ∧ g 7 0 = 0 ∧ g 8 0 = 0 ∧ g 30 0 = 0 ∧ g 31 0 = 0 ∧ g 32 0 = 0 ∧ g 6 0 = 0 ∧ g 9 0 = 0 ∧ g 16 0 = 0 ∧ g 15 0 = 0 ∧ g 17 0 = 0 ∧ g 18 0 = 0) (z2 : g 14 0 = -1 ∧ g 13 0 = 0 ∧ g 12 0 = 1 ∧ g 10 0 = 0 ∧ g 11 0 = 0 ∧ g 10 1 = 0 ∧ g 11 1 = 0) : Met l yX8_init (.code yX8_init cX8_init 1 (Option.none : Option Jvm.ClassFile.FieldType) :: AL) ({ frames := 2, cells := 24, slots := 6604, locals := 43 }) (PCx dC dI dA sz ((h0, .inr (8, dv_X8)) :: X) Γ g [.ref h0]) (va_Qv (fun (u : (ty_G × gh)) => ext Γ u.1 ∧ Un u.1 ∧ tyIn u.1 ((1, 0) :: ((9, 0) :: ((24, 0) :: ((23, 0) :: ((23, 0) :: ((8, 0) :: ((27, 0) :: ((22, 0) :: ((21, 0) :: ((20, 0) :: ((19, 0) :: ((6, 1) :: ((26, 1) :: ((17, 1) :: ((16, 1) :: ((6, 0) :: ((26, 0) :: ((17, 0) :: ((16, 0) :: ((7, 0) :: ((18, 0) :: ((12, 0) :: ((11, 0) :: ((10, 0) :: [])))))))))))))))))))))))) ∧ (u.1 h0).1 = 1 ∧ (∀ c j : Nat, c ≠ 82 → u.2 c j = g c j) ∧ (u.2 82 = fz (fz (g 82) 0 (-1) 53) 64 (-1) 53)) (okB dC dI dA sz X) (ty_A sz)) 24 6604 (ty_A sz) := by
  refine Met.ofW (cc := cX8_init) (maxL := 1) (ret := (Option.none : Option Jvm.ClassFile.FieldType)) (by decide) rfl ?_
  intro p e s m args below meth c s₁ B hml hv
  obtain ⟨rfl, hG, hE⟩ := hv
  have hx := B.exec
  have hb := B.bytes
  have hr := B.returns
  have hts := atoms_spec B.pre
  have hA : ∀ w ∈ AL, w.before _ s = true := fun w h => hts w (List.mem_cons_of_mem _ h)
  have hown : s.vm.findClass RX8 = some m.cls := findClass_of_methodNamed B.named
  have hlocks := B.notSynchronized
  have hin : meth.name = "<init>" := (name_of_methodNamed B.named B.method).1
  have hS : va_S (ty_A sz) s.heap s.heap [] := va_S.rf
  have hl := lv_entry ([.ref h0]) (n := 1) (Nat.le_of_ble_eq_true rfl)
  rw [lg_entry_eq]
  generalize (lg_sl ([.ref h0]) ++ List.replicate (1 - (lg_sl ([.ref h0])).length) Slot.unset).toArray = ls at hl ⊢
  have hl : lv_has ls 1 [(0, .ref h0)] := hl
  refine lv_aload_n hx hb dX8_init_0 rfl (lv_at hl 0 rfl) ?_
  refine W.objInit hx hb hown (hA _ wd_1_27) (hA _ wd_1_28) (hA _ wd_1_29) rfl (by rw [hml]; exact hl.1) rfl dX8_init_1 (Nat.le_of_ble_eq_true rfl) (Nat.le_of_ble_eq_true rfl) ?_
  refine W.eq (g2 := F0 m 4 ls []) rfl ?_
  refine lv_aload_n hx hb dX8_init_4 rfl (lv_at hl 0 rfl) ?_
  refine ty_bipush hx hb (6) dX8_init_5 (by decide) (fun x1 h2 => ?_)
  refine new_R4 hx hb hA hE hG hS hown wd_1_30 (N := 6) (by omega) (by decide) (Nat.le_of_ble_eq_true rfl) (Nat.le_of_ble_eq_true rfl) (10, 0) (fun Γ' => by rw [TP_10 rfl]; exact ⟨_, rfl, fun j hj => ⟨fun b h => (by cases h), fun h => absurd h (by rw [zg 33 0 (by decide)]; omega)⟩⟩) dX8_init_7 (fun q3 H (z_q3 : ty Γ q3 0) s_q3 e_q3 hG hS => ?_)
  obtain ⟨Γ4, eΓ4⟩ : ∃ z, z = va_up Γ q3 (10, 0) := ⟨_, rfl⟩
  rw [← eΓ4] at hG
  have hx5 : ext Γ Γ4 := by rw [eΓ4]; exact ext.up z_q3
  have hU : Un Γ4 := by rw [eΓ4]; exact Un.up hU hL (by show (10 : Nat) ≠ 0; decide) (fun _ => by decide) (fun _ => by decide)
  have hL6 : tyIn Γ4 ((10, 0) :: []) := by rw [eΓ4]; exact hL.up
  have hX7 : ext Γ Γ4 := ext.trans ext.rf hx5
  have t_q3 : ty Γ4 q3 10 := by rw [eΓ4]; unfold ty; rw [va_up_self]
  clear z_q3 s_q3 e_q3
  refine rw_X8 hx hb hA hE hG hS hown hin rfl 0 (by decide) wd_1_157 rfl (ty := .array (.object "WeekBank$Flat")) (tyX8_ok 0 (by decide)) rfl rfl (Nat.le_of_ble_eq_true rfl) dX8_init_10 (fun H locs hG hS => ?_)
  replace hG : ty_ok (dC, dI) vwCl Γ4 (TP dA Γ4 g) sz ((h0, .inr (8, [.ref q3, .int 0, .null, .int 0, .null, .int 0, .null, .null, .null, .int 0, .int 0, .null, .null])) :: X) H := hG
  refine lv_aload_n hx hb dX8_init_13 rfl (lv_at hl 0 rfl) ?_
  refine ty_iconst hx hb (0) dX8_init_14 (by decide) (fun x8 h9 => ?_)
  refine rw_X8 hx hb hA hE hG hS hown hin rfl 1 (by decide) wd_1_158 rfl (ty := .int) (tyX8_ok 1 (by decide)) rfl rfl (Nat.le_of_ble_eq_true rfl) dX8_init_15 (fun H locs hG hS => ?_)
  replace hG : ty_ok (dC, dI) vwCl Γ4 (TP dA Γ4 g) sz ((h0, .inr (8, [.ref q3, .int x8, .null, .int 0, .null, .int 0, .null, .null, .null, .int 0, .int 0, .null, .null])) :: X) H := hG
  refine lv_aload_n hx hb dX8_init_18 rfl (lv_at hl 0 rfl) ?_
  refine ty_bipush hx hb (10) dX8_init_19 (by decide) (fun x10 h11 => ?_)
  refine new_R5 hx hb hA hE hG hS hown wd_1_32 (N := 10) (by omega) (by decide) (Nat.le_of_ble_eq_true rfl) (Nat.le_of_ble_eq_true rfl) (11, 0) (fun Γ' => by rw [TP_11 rfl]; exact ⟨_, rfl, fun j hj => ⟨fun b h => (by cases h), fun h => absurd h (by rw [zg 34 0 (by decide)]; omega)⟩⟩) dX8_init_21 (fun q12 H (z_q12 : ty Γ4 q12 0) s_q12 e_q12 hG hS => ?_)
  obtain ⟨Γ13, eΓ13⟩ : ∃ z, z = va_up Γ4 q12 (11, 0) := ⟨_, rfl⟩
  rw [← eΓ13] at hG
  have hx14 : ext Γ4 Γ13 := by rw [eΓ13]; exact ext.up z_q12
  have hU : Un Γ13 := by rw [eΓ13]; exact Un.up hU hL6 (by show (11 : Nat) ≠ 0; decide) (fun _ => by decide) (fun _ => by decide)
  have hL15 : tyIn Γ13 ((11, 0) :: ((10, 0) :: [])) := by rw [eΓ13]; exact hL6.up
  have hX16 : ext Γ Γ13 := ext.trans hX7 hx14
  replace t_q3 : ty Γ13 q3 10 := hx14.one t_q3 (by decide)
  have t_q12 : ty Γ13 q12 11 := by rw [eΓ13]; unfold ty; rw [va_up_self]
  clear z_q12 s_q12 e_q12
  refine rw_X8 hx hb hA hE hG hS hown hin rfl 2 (by decide) wd_1_159 rfl (ty := .array (.object "WeekBank$Owner")) (tyX8_ok 2 (by decide)) rfl rfl (Nat.le_of_ble_eq_true rfl) dX8_init_24 (fun H locs hG hS => ?_)
  replace hG : ty_ok (dC, dI) vwCl Γ13 (TP dA Γ13 g) sz ((h0, .inr (8, [.ref q3, .int x8, .ref q12, .int 0, .null, .int 0, .null, .null, .null, .int 0, .int 0, .null, .null])) :: X) H := hG
  refine lv_aload_n hx hb dX8_init_27 rfl (lv_at hl 0 rfl) ?_
  refine ty_iconst hx hb (0) dX8_init_28 (by decide) (fun x17 h18 => ?_)
  refine rw_X8 hx hb hA hE hG hS hown hin rfl 3 (by decide) wd_1_160 rfl (ty := .int) (tyX8_ok 3 (by decide)) rfl rfl (Nat.le_of_ble_eq_true rfl) dX8_init_29 (fun H locs hG hS => ?_)
  replace hG : ty_ok (dC, dI) vwCl Γ13 (TP dA Γ13 g) sz ((h0, .inr (8, [.ref q3, .int x8, .ref q12, .int x17, .null, .int 0, .null, .null, .null, .int 0, .int 0, .null, .null])) :: X) H := hG
  refine lv_aload_n hx hb dX8_init_32 rfl (lv_at hl 0 rfl) ?_
  refine ty_sipush hx hb (200) dX8_init_33 (by decide) (fun x19 h20 => ?_)
  refine new_R6 hx hb hA hE hG hS hown wd_1_34 (N := 200) (by omega) (by decide) (Nat.le_of_ble_eq_true rfl) (Nat.le_of_ble_eq_true rfl) (12, 0) (fun Γ' => by rw [TP_12 rfl]; exact ⟨_, rfl, fun j hj => ⟨fun b h => (by cases h), fun h => absurd h (by rw [zg 35 0 (by decide)]; omega)⟩⟩) dX8_init_36 (fun q21 H (z_q21 : ty Γ13 q21 0) s_q21 e_q21 hG hS => ?_)
  obtain ⟨Γ22, eΓ22⟩ : ∃ z, z = va_up Γ13 q21 (12, 0) := ⟨_, rfl⟩
  rw [← eΓ22] at hG
  have hx23 : ext Γ13 Γ22 := by rw [eΓ22]; exact ext.up z_q21
  have hU : Un Γ22 := by rw [eΓ22]; exact Un.up hU hL15 (by show (12 : Nat) ≠ 0; decide) (fun _ => by decide) (fun _ => by decide)
  have hL24 : tyIn Γ22 ((12, 0) :: ((11, 0) :: ((10, 0) :: []))) := by rw [eΓ22]; exact hL15.up
  have hX25 : ext Γ Γ22 := ext.trans hX16 hx23
  replace t_q3 : ty Γ22 q3 10 := hx23.one t_q3 (by decide)
  replace t_q12 : ty Γ22 q12 11 := hx23.one t_q12 (by decide)
  have t_q21 : ty Γ22 q21 12 := by rw [eΓ22]; unfold ty; rw [va_up_self]
  clear z_q21 s_q21 e_q21
  refine rw_X8 hx hb hA hE hG hS hown hin rfl 4 (by decide) wd_1_161 rfl (ty := .array (.object "WeekBank$Gift")) (tyX8_ok 4 (by decide)) rfl rfl (Nat.le_of_ble_eq_true rfl) dX8_init_39 (fun H locs hG hS => ?_)
  replace hG : ty_ok (dC, dI) vwCl Γ22 (TP dA Γ22 g) sz ((h0, .inr (8, [.ref q3, .int x8, .ref q12, .int x17, .ref q21, .int 0, .null, .null, .null, .int 0, .int 0, .null, .null])) :: X) H := hG
  refine lv_aload_n hx hb dX8_init_42 rfl (lv_at hl 0 rfl) ?_
  refine ty_iconst hx hb (0) dX8_init_43 (by decide) (fun x26 h27 => ?_)
  refine rw_X8 hx hb hA hE hG hS hown hin rfl 5 (by decide) wd_1_162 rfl (ty := .int) (tyX8_ok 5 (by decide)) rfl rfl (Nat.le_of_ble_eq_true rfl) dX8_init_44 (fun H locs hG hS => ?_)
  replace hG : ty_ok (dC, dI) vwCl Γ22 (TP dA Γ22 g) sz ((h0, .inr (8, [.ref q3, .int x8, .ref q12, .int x17, .ref q21, .int x26, .null, .null, .null, .int 0, .int 0, .null, .null])) :: X) H := hG
  refine lv_aload_n hx hb dX8_init_47 rfl (lv_at hl 0 rfl) ?_
  refine new_X4 hx hb hA hE hG hS hown wd_1_36 wd_1_37 wd_1_2 (Nat.le_of_ble_eq_true rfl) (Nat.le_of_ble_eq_true rfl) dX8_init_48 (fun q28 H z_q28 s_q28 e_q28 hG hS => ?_)
  clear z_q28 s_q28 e_q28
  refine lv_dup hx hb dX8_init_51 rfl ?_
  refine cVB (va_runIN (As := []) (rest := [.ref q28, .ref h0]) ⟨hx, hb, hml, hown, hA⟩ (k_X4_init l dC dI dA sz ((h0, .inr (8, [.ref q3, .int x8, .ref q12, .int x17, .ref q21, .int x26, .null, .null, .null, .int 0, .int 0, .null, .null])) :: X) Γ22 hU g q28  ((12, 0) :: ((11, 0) :: ((10, 0) :: []))) hL24 (by decide)  (fun c j h => zg c j (Or.inl h)) (by omega)) ⟨va_cnB 0 hA (al_A wd_1_40) rfl rfl rfl hE.2.1.1 (hA _ wd_1_2) (by decide +kernel) ⟨Nat.le_of_ble_eq_true rfl, Nat.le_of_ble_eq_true rfl⟩, rfl, hA _ wd_1_39⟩ ⟨bl, fun U hU9 hW9 => ⟨rfl, by rw [hU9]; exact hG, hE.go hS hU9 hW9⟩⟩ rfl rfl hl.1 rfl (lv_room (Nat.le_of_ble_eq_true rfl)) dX8_init_52 ⟨Nat.le_of_ble_eq_true rfl, Nat.le_of_ble_eq_true rfl⟩) hS (fun u29 H locs w30 hG hS => ?_)
  obtain ⟨Γ31, g32⟩ := u29
  dsimp only at w30 hG
  obtain ⟨hx33, hU, hL34, t_q28, eu37⟩ := w30
  rw [eu37] at hG
  replace t_q28 : ty Γ31 q28 7 := t_q28
  have hL34 : tyIn Γ31 ((7, 0) :: ((18, 0) :: ((12, 0) :: ((11, 0) :: ((10, 0) :: []))))) := hL34
  have hX38 : ext Γ Γ31 := ext.trans hX25 hx33
  replace t_q3 : ty Γ31 q3 10 := hx33.one t_q3 (by decide)
  replace t_q12 : ty Γ31 q12 11 := hx33.one t_q12 (by decide)
  replace t_q21 : ty Γ31 q21 12 := hx33.one t_q21 (by decide)
  refine rw_X8 hx hb hA hE hG hS hown hin rfl 6 (by decide) wd_1_163 rfl (ty := .object "WeekBank$Reader") (tyX8_ok 6 (by decide)) rfl rfl (Nat.le_of_ble_eq_true rfl) dX8_init_55 (fun H locs hG hS => ?_)
  replace hG : ty_ok (dC, dI) vwCl Γ31 (TP dA Γ31 g) sz ((h0, .inr (8, [.ref q3, .int x8, .ref q12, .int x17, .ref q21, .int x26, .ref q28, .null, .null, .int 0, .int 0, .null, .null])) :: X) H := hG
  refine lv_aload_n hx hb dX8_init_58 rfl (lv_at hl 0 rfl) ?_
  refine new_X6 hx hb hA hE hG hS hown wd_1_71 wd_1_72 wd_1_3 (Nat.le_of_ble_eq_true rfl) (Nat.le_of_ble_eq_true rfl) dX8_init_59 (fun q39 H z_q39 s_q39 e_q39 hG hS => ?_)
  clear z_q39 s_q39 e_q39
  refine lv_dup hx hb dX8_init_62 rfl ?_
  refine cVB (va_runI (As := []) (rest := [.ref q39, .ref h0]) ⟨hx, hb, hml, hown, hA⟩ (k_X6_init l dC dI dA sz ((h0, .inr (8, [.ref q3, .int x8, .ref q12, .int x17, .ref q21, .int x26, .ref q28, .null, .null, .int 0, .int 0, .null, .null])) :: X) Γ31 hU g q39 0 ((7, 0) :: ((18, 0) :: ((12, 0) :: ((11, 0) :: ((10, 0) :: []))))) hL34 (by decide) (fun c j h => zg c _ (by omega)) (by omega)) ⟨callB_of 0 hA (al_A wd_1_75) rfl rfl rfl (hA _ wd_1_3) (hA _ wd_1_73) (by decide +kernel) ⟨Nat.le_of_ble_eq_true rfl, Nat.le_of_ble_eq_true rfl⟩, rfl, hA _ wd_1_74⟩ ⟨bl, fun U hU9 hW9 => ⟨rfl, by rw [hU9]; exact hG, hE.go hS hU9 hW9⟩⟩ rfl rfl hl.1 rfl (lv_room (Nat.le_of_ble_eq_true rfl)) dX8_init_63 ⟨Nat.le_of_ble_eq_true rfl, Nat.le_of_ble_eq_true rfl⟩) hS (fun u40 H locs w41 hG hS => ?_)
  obtain ⟨Γ42, g43⟩ := u40
  dsimp only at w41 hG
  obtain ⟨hx44, hU, hL45, t_q39, hf46, hq49⟩ := w41
  have hL45 : tyIn Γ42 ((6, 0) :: ((26, 0) :: ((17, 0) :: ((16, 0) :: ((7, 0) :: ((18, 0) :: ((12, 0) :: ((11, 0) :: ((10, 0) :: []))))))))) := hL45
  have hX50 : ext Γ Γ42 := ext.trans hX38 hx44
  replace t_q3 : ty Γ42 q3 10 := hx44.one t_q3 (by decide)
  replace t_q12 : ty Γ42 q12 11 := hx44.one t_q12 (by decide)
  replace t_q21 : ty Γ42 q21 12 := hx44.one t_q21 (by decide)
  replace t_q28 : ty Γ42 q28 7 := hx44.one t_q28 (by decide)
  refine rw_X8 hx hb hA hE hG hS hown hin rfl 7 (by decide) wd_1_164 rfl (ty := .object "WeekBank$Rules") (tyX8_ok 7 (by decide)) rfl rfl (Nat.le_of_ble_eq_true rfl) dX8_init_66 (fun H locs hG hS => ?_)
  replace hG : ty_ok (dC, dI) vwCl Γ42 (TP dA Γ42 g43) sz ((h0, .inr (8, [.ref q3, .int x8, .ref q12, .int x17, .ref q21, .int x26, .ref q28, .ref q39, .null, .int 0, .int 0, .null, .null])) :: X) H := hG
  refine lv_aload_n hx hb dX8_init_69 rfl (lv_at hl 0 rfl) ?_
  refine new_X6 hx hb hA hE hG hS hown wd_1_71 wd_1_72 wd_1_3 (Nat.le_of_ble_eq_true rfl) (Nat.le_of_ble_eq_true rfl) dX8_init_70 (fun q51 H z_q51 s_q51 e_q51 hG hS => ?_)
  clear z_q51 s_q51 e_q51
  refine lv_dup hx hb dX8_init_73 rfl ?_
  have hk52 : g43 10 1 = g 10 1 := hf46 10 1 (by decide)
  have hk53 : g43 11 1 = g 11 1 := hf46 11 1 (by decide)
  refine cVB (va_runI (As := []) (rest := [.ref q51, .ref h0]) ⟨hx, hb, hml, hown, hA⟩ (k_X6_init l dC dI dA sz ((h0, .inr (8, [.ref q3, .int x8, .ref q12, .int x17, .ref q21, .int x26, .ref q28, .ref q39, .null, .int 0, .int 0, .null, .null])) :: X) Γ42 hU g43 q51 1 ((6, 0) :: ((26, 0) :: ((17, 0) :: ((16, 0) :: ((7, 0) :: ((18, 0) :: ((12, 0) :: ((11, 0) :: ((10, 0) :: []))))))))) hL45 (by decide) (fun c j h => by by_cases e : c = 82; (rw [e, hq49, fz_at, if_neg (by omega)]; exact zg 82 _ (by omega)); (rw [hf46 c _ e]; exact zg c _ (by omega))) (by omega)) ⟨callB_of 0 hA (al_A wd_1_75) rfl rfl rfl (hA _ wd_1_3) (hA _ wd_1_73) (by decide +kernel) ⟨Nat.le_of_ble_eq_true rfl, Nat.le_of_ble_eq_true rfl⟩, rfl, hA _ wd_1_74⟩ ⟨bl, fun U hU9 hW9 => ⟨rfl, by rw [hU9]; exact hG, hE.go hS hU9 hW9⟩⟩ rfl rfl hl.1 rfl (lv_room (Nat.le_of_ble_eq_true rfl)) dX8_init_74 ⟨Nat.le_of_ble_eq_true rfl, Nat.le_of_ble_eq_true rfl⟩) hS (fun u54 H locs w55 hG hS => ?_)
  obtain ⟨Γ56, g57⟩ := u54
  dsimp only at w55 hG
  obtain ⟨hx58, hU, hL59, t_q51, hf60, hq63⟩ := w55
  have hL59 : tyIn Γ56 ((6, 1) :: ((26, 1) :: ((17, 1) :: ((16, 1) :: ((6, 0) :: ((26, 0) :: ((17, 0) :: ((16, 0) :: ((7, 0) :: ((18, 0) :: ((12, 0) :: ((11, 0) :: ((10, 0) :: []))))))))))))) := hL59
  have hn64 : g43 82 = (fz (g 82) (64 * 0) (-1) 53) := by rw [hq49]
  rw [hn64] at hq63
  have hX65 : ext Γ Γ56 := ext.trans hX50 hx58
  replace t_q3 : ty Γ56 q3 10 := hx58.one t_q3 (by decide)
  replace t_q12 : ty Γ56 q12 11 := hx58.one t_q12 (by decide)
  replace t_q21 : ty Γ56 q21 12 := hx58.one t_q21 (by decide)
  replace t_q28 : ty Γ56 q28 7 := hx58.one t_q28 (by decide)
  replace t_q39 : Γ56 q39 = (6, 0) := hx58.two t_q39 (by show (6 : Nat) ≠ 0; decide)
  refine rw_X8 hx hb hA hE hG hS hown hin rfl 8 (by decide) wd_1_165 rfl (ty := .object "WeekBank$Rules") (tyX8_ok 8 (by decide)) rfl rfl (Nat.le_of_ble_eq_true rfl) dX8_init_77 (fun H locs hG hS => ?_)
  replace hG : ty_ok (dC, dI) vwCl Γ56 (TP dA Γ56 g57) sz ((h0, .inr (8, [.ref q3, .int x8, .ref q12, .int x17, .ref q21, .int x26, .ref q28, .ref q39, .ref q51, .int 0, .int 0, .null, .null])) :: X) H := hG
  refine lv_aload_n hx hb dX8_init_80 rfl (lv_at hl 0 rfl) ?_
  refine ty_iconst hx hb (0) dX8_init_81 (by decide) (fun x66 h67 => ?_)
  refine rw_X8 hx hb hA hE hG hS hown hin rfl 9 (by decide) wd_1_166 rfl (ty := .int) (tyX8_ok 9 (by decide)) rfl rfl (Nat.le_of_ble_eq_true rfl) dX8_init_82 (fun H locs hG hS => ?_)
  replace hG : ty_ok (dC, dI) vwCl Γ56 (TP dA Γ56 g57) sz ((h0, .inr (8, [.ref q3, .int x8, .ref q12, .int x17, .ref q21, .int x26, .ref q28, .ref q39, .ref q51, .int x66, .int 0, .null, .null])) :: X) H := hG
  refine lv_aload_n hx hb dX8_init_85 rfl (lv_at hl 0 rfl) ?_
  refine ty_iconst hx hb (0) dX8_init_86 (by decide) (fun x68 h69 => ?_)
  refine rw_X8 hx hb hA hE hG hS hown hin rfl 10 (by decide) wd_1_167 rfl (ty := .int) (tyX8_ok 10 (by decide)) rfl rfl (Nat.le_of_ble_eq_true rfl) dX8_init_87 (fun H locs hG hS => ?_)
  replace hG : ty_ok (dC, dI) vwCl Γ56 (TP dA Γ56 g57) sz ((h0, .inr (8, [.ref q3, .int x8, .ref q12, .int x17, .ref q21, .int x26, .ref q28, .ref q39, .ref q51, .int x66, .int x68, .null, .null])) :: X) H := hG
  refine lv_aload_n hx hb dX8_init_90 rfl (lv_at hl 0 rfl) ?_
  refine new_X5 hx hb hA hE hG hS hown wd_1_100 wd_1_101 wd_1_5 (Nat.le_of_ble_eq_true rfl) (Nat.le_of_ble_eq_true rfl) dX8_init_91 (fun q70 H z_q70 s_q70 e_q70 hG hS => ?_)
  clear z_q70 s_q70 e_q70
  refine lv_dup hx hb dX8_init_94 rfl ?_
  have hk71 : g57 7 0 = g43 7 0 := hf60 7 0 (by decide)
  have hk72 : g43 7 0 = g 7 0 := hf46 7 0 (by decide)
  have hk73 : g57 8 0 = g43 8 0 := hf60 8 0 (by decide)
  have hk74 : g43 8 0 = g 8 0 := hf46 8 0 (by decide)
  refine cVB (va_runIN (As := []) (rest := [.ref q70, .ref h0]) ⟨hx, hb, hml, hown, hA⟩ (k_X5_init l dC dI dA sz ((h0, .inr (8, [.ref q3, .int x8, .ref q12, .int x17, .ref q21, .int x26, .ref q28, .ref q39, .ref q51, .int x66, .int x68, .null, .null])) :: X) Γ56 hU g57 q70  ((6, 1) :: ((26, 1) :: ((17, 1) :: ((16, 1) :: ((6, 0) :: ((26, 0) :: ((17, 0) :: ((16, 0) :: ((7, 0) :: ((18, 0) :: ((12, 0) :: ((11, 0) :: ((10, 0) :: []))))))))))))) hL59 (by decide)  (fun c j h => by rw [hf60 c j (by omega), hf46 c j (by omega)]; exact zg c j (by omega)) (fun j => by rw [hf60 46 j (by decide), hf46 46 j (by decide)]; exact z46 j) (by omega)) ⟨va_cnB 0 hA (al_A wd_1_104) rfl rfl rfl hE.2.1.2.1 (hA _ wd_1_5) (by decide +kernel) ⟨Nat.le_of_ble_eq_true rfl, Nat.le_of_ble_eq_true rfl⟩, rfl, hA _ wd_1_103⟩ ⟨bl, fun U hU9 hW9 => ⟨rfl, by rw [hU9]; exact hG, hE.go hS hU9 hW9⟩⟩ rfl rfl hl.1 rfl (lv_room (Nat.le_of_ble_eq_true rfl)) dX8_init_95 ⟨Nat.le_of_ble_eq_true rfl, Nat.le_of_ble_eq_true rfl⟩) hS (fun u75 H locs w76 hG hS => ?_)
  obtain ⟨Γ77, g78⟩ := u75
  dsimp only at w76 hG
  obtain ⟨hx79, hU, hL80, t_q70, eu83⟩ := w76
  rw [eu83] at hG
  replace t_q70 : ty Γ77 q70 8 := t_q70
  have hL80 : tyIn Γ77 ((8, 0) :: ((27, 0) :: ((22, 0) :: ((21, 0) :: ((20, 0) :: ((19, 0) :: ((6, 1) :: ((26, 1) :: ((17, 1) :: ((16, 1) :: ((6, 0) :: ((26, 0) :: ((17, 0) :: ((16, 0) :: ((7, 0) :: ((18, 0) :: ((12, 0) :: ((11, 0) :: ((10, 0) :: []))))))))))))))))))) := hL80
  have hX84 : ext Γ Γ77 := ext.trans hX65 hx79
  replace t_q3 : ty Γ77 q3 10 := hx79.one t_q3 (by decide)
  replace t_q12 : ty Γ77 q12 11 := hx79.one t_q12 (by decide)
  replace t_q21 : ty Γ77 q21 12 := hx79.one t_q21 (by decide)
  replace t_q28 : ty Γ77 q28 7 := hx79.one t_q28 (by decide)
  replace t_q39 : Γ77 q39 = (6, 0) := hx79.two t_q39 (by show (6 : Nat) ≠ 0; decide)
  replace t_q51 : Γ77 q51 = (6, 1) := hx79.two t_q51 (by show (6 : Nat) ≠ 0; decide)
  refine rw_X8 hx hb hA hE hG hS hown hin rfl 11 (by decide) wd_1_168 rfl (ty := .object "WeekBank$RingSearch") (tyX8_ok 11 (by decide)) rfl rfl (Nat.le_of_ble_eq_true rfl) dX8_init_98 (fun H locs hG hS => ?_)
  replace hG : ty_ok (dC, dI) vwCl Γ77 (TP dA Γ77 g57) sz ((h0, .inr (8, [.ref q3, .int x8, .ref q12, .int x17, .ref q21, .int x26, .ref q28, .ref q39, .ref q51, .int x66, .int x68, .ref q70, .null])) :: X) H := hG
  refine lv_aload_n hx hb dX8_init_101 rfl (lv_at hl 0 rfl) ?_
  refine new_X0 hx hb hA hE hG hS hown wd_1_129 wd_1_130 wd_1_6 (Nat.le_of_ble_eq_true rfl) (Nat.le_of_ble_eq_true rfl) dX8_init_102 (fun q85 H z_q85 s_q85 e_q85 hG hS => ?_)
  clear z_q85 s_q85 e_q85
  refine lv_dup hx hb dX8_init_105 rfl ?_
  have hk86 : g57 30 0 = g43 30 0 := hf60 30 0 (by decide)
  have hk87 : g43 30 0 = g 30 0 := hf46 30 0 (by decide)
  have hk88 : g57 31 0 = g43 31 0 := hf60 31 0 (by decide)
  have hk89 : g43 31 0 = g 31 0 := hf46 31 0 (by decide)
  have hk90 : g57 32 0 = g43 32 0 := hf60 32 0 (by decide)
  have hk91 : g43 32 0 = g 32 0 := hf46 32 0 (by decide)
  refine cVB (va_runIN (As := []) (rest := [.ref q85, .ref h0]) ⟨hx, hb, hml, hown, hA⟩ (k_X0_init l dC dI dA sz ((h0, .inr (8, [.ref q3, .int x8, .ref q12, .int x17, .ref q21, .int x26, .ref q28, .ref q39, .ref q51, .int x66, .int x68, .ref q70, .null])) :: X) Γ77 hU g57 q85  ((8, 0) :: ((27, 0) :: ((22, 0) :: ((21, 0) :: ((20, 0) :: ((19, 0) :: ((6, 1) :: ((26, 1) :: ((17, 1) :: ((16, 1) :: ((6, 0) :: ((26, 0) :: ((17, 0) :: ((16, 0) :: ((7, 0) :: ((18, 0) :: ((12, 0) :: ((11, 0) :: ((10, 0) :: []))))))))))))))))))) hL80 (by decide)  (by omega)) ⟨va_cnB 0 hA (al_A wd_1_133) rfl rfl rfl hE.2.1.2.2.1 (hA _ wd_1_6) (by decide +kernel) ⟨Nat.le_of_ble_eq_true rfl, Nat.le_of_ble_eq_true rfl⟩, rfl, hA _ wd_1_132⟩ ⟨bl, fun U hU9 hW9 => ⟨rfl, by rw [hU9]; exact hG, hE.go hS hU9 hW9⟩⟩ rfl rfl hl.1 rfl (lv_room (Nat.le_of_ble_eq_true rfl)) dX8_init_106 ⟨Nat.le_of_ble_eq_true rfl, Nat.le_of_ble_eq_true rfl⟩) hS (fun u92 H locs w93 hG hS => ?_)
  obtain ⟨Γ94, g95⟩ := u92
  dsimp only at w93 hG
  obtain ⟨hx96, hU, hL97, t_q85, eu100⟩ := w93
  rw [eu100] at hG
  replace t_q85 : ty Γ94 q85 9 := t_q85
  have hL97 : tyIn Γ94 ((9, 0) :: ((24, 0) :: ((23, 0) :: ((23, 0) :: ((8, 0) :: ((27, 0) :: ((22, 0) :: ((21, 0) :: ((20, 0) :: ((19, 0) :: ((6, 1) :: ((26, 1) :: ((17, 1) :: ((16, 1) :: ((6, 0) :: ((26, 0) :: ((17, 0) :: ((16, 0) :: ((7, 0) :: ((18, 0) :: ((12, 0) :: ((11, 0) :: ((10, 0) :: []))))))))))))))))))))))) := hL97
  have hX101 : ext Γ Γ94 := ext.trans hX84 hx96
  replace t_q3 : ty Γ94 q3 10 := hx96.one t_q3 (by decide)
  replace t_q12 : ty Γ94 q12 11 := hx96.one t_q12 (by decide)
  replace t_q21 : ty Γ94 q21 12 := hx96.one t_q21 (by decide)
  replace t_q28 : ty Γ94 q28 7 := hx96.one t_q28 (by decide)
  replace t_q39 : Γ94 q39 = (6, 0) := hx96.two t_q39 (by show (6 : Nat) ≠ 0; decide)
  replace t_q51 : Γ94 q51 = (6, 1) := hx96.two t_q51 (by show (6 : Nat) ≠ 0; decide)
  replace t_q70 : ty Γ94 q70 8 := hx96.one t_q70 (by decide)
  refine rw_X8 hx hb hA hE hG hS hown hin rfl 12 (by decide) wd_1_169 rfl (ty := .object "WeekBank$FeeRounds") (tyX8_ok 12 (by decide)) rfl rfl (Nat.le_of_ble_eq_true rfl) dX8_init_109 (fun H locs hG hS => ?_)
  replace hG : ty_ok (dC, dI) vwCl Γ94 (TP dA Γ94 g57) sz ((h0, .inr (8, [.ref q3, .int x8, .ref q12, .int x17, .ref q21, .int x26, .ref q28, .ref q39, .ref q51, .int x66, .int x68, .ref q70, .ref q85])) :: X) H := hG
  have z_own : ty Γ94 h0 0 := (hG.2.2.2 _ List.mem_cons_self).2.1
  have hx102 : ext Γ94 (va_up Γ94 h0 (1, 0)) := ext.up z_own
  have hk103 : g57 1 0 = g43 1 0 := hf60 1 0 (by decide)
  have hk104 : g43 1 0 = g 1 0 := hf46 1 0 (by decide)
  have hk105 : g57 2 0 = g43 2 0 := hf60 2 0 (by decide)
  have hk106 : g43 2 0 = g 2 0 := hf46 2 0 (by decide)
  have hk107 : g57 3 0 = g43 3 0 := hf60 3 0 (by decide)
  have hk108 : g43 3 0 = g 3 0 := hf46 3 0 (by decide)
  have hk109 : g57 13 0 = g43 13 0 := hf60 13 0 (by decide)
  have hk110 : g43 13 0 = g 13 0 := hf46 13 0 (by decide)
  have hk111 : g57 12 0 = g43 12 0 := hf60 12 0 (by decide)
  have hk112 : g43 12 0 = g 12 0 := hf46 12 0 (by decide)
  have hk113 : g57 4 0 = g43 4 0 := hf60 4 0 (by decide)
  have hk114 : g43 4 0 = g 4 0 := hf46 4 0 (by decide)
  have hk115 : g57 5 0 = g43 5 0 := hf60 5 0 (by decide)
  have hk116 : g43 5 0 = g 5 0 := hf46 5 0 (by decide)
  have hG := tp_adopt (t := (1, 0)) hG (by rw [TP_1 rfl]; exact ⟨_, rfl, rfl, fun k hk => match k, hk with
        | 0, _ => ⟨_, rfl, hx102.one t_q3 (by decide)⟩
        | 1, _ => ⟨_, rfl, by omega⟩
        | 2, _ => ⟨_, rfl, hx102.one t_q12 (by decide)⟩
        | 3, _ => ⟨_, rfl, by omega⟩
        | 4, _ => ⟨_, rfl, hx102.one t_q21 (by decide)⟩
        | 5, _ => ⟨_, rfl, by omega⟩
        | 6, _ => ⟨_, rfl, hx102.one t_q28 (by decide)⟩
        | 7, _ => ⟨_, _, rfl, hx102.two t_q39 (by show (6 : Nat) ≠ 0; decide), by omega, by decide⟩
        | 8, _ => ⟨_, _, rfl, hx102.two t_q51 (by show (6 : Nat) ≠ 0; decide), by omega, by decide⟩
        | 9, _ => ⟨_, rfl, by omega⟩
        | 10, _ => ⟨_, rfl, by omega⟩
        | 11, _ => ⟨_, rfl, hx102.one t_q70 (by decide)⟩
        | 12, _ => ⟨_, rfl, hx102.one t_q85 (by decide)⟩
      ⟩)
  obtain ⟨Γ117, eΓ117⟩ : ∃ z, z = va_up Γ94 h0 (1, 0) := ⟨_, rfl⟩
  rw [← eΓ117] at hG
  have hx118 : ext Γ94 Γ117 := by rw [eΓ117]; exact ext.up z_own
  have hU : Un Γ117 := by rw [eΓ117]; exact Un.up hU hL97 (by show (1 : Nat) ≠ 0; decide) (fun _ => by decide) (fun _ => by decide)
  have hL119 : tyIn Γ117 ((1, 0) :: ((9, 0) :: ((24, 0) :: ((23, 0) :: ((23, 0) :: ((8, 0) :: ((27, 0) :: ((22, 0) :: ((21, 0) :: ((20, 0) :: ((19, 0) :: ((6, 1) :: ((26, 1) :: ((17, 1) :: ((16, 1) :: ((6, 0) :: ((26, 0) :: ((17, 0) :: ((16, 0) :: ((7, 0) :: ((18, 0) :: ((12, 0) :: ((11, 0) :: ((10, 0) :: [])))))))))))))))))))))))) := by rw [eΓ117]; exact hL97.up
  have hX120 : ext Γ Γ117 := ext.trans hX101 hx118
  replace t_q3 : ty Γ117 q3 10 := hx118.one t_q3 (by decide)
  replace t_q12 : ty Γ117 q12 11 := hx118.one t_q12 (by decide)
  replace t_q21 : ty Γ117 q21 12 := hx118.one t_q21 (by decide)
  replace t_q28 : ty Γ117 q28 7 := hx118.one t_q28 (by decide)
  replace t_q39 : Γ117 q39 = (6, 0) := hx118.two t_q39 (by show (6 : Nat) ≠ 0; decide)
  replace t_q51 : Γ117 q51 = (6, 1) := hx118.two t_q51 (by show (6 : Nat) ≠ 0; decide)
  replace t_q70 : ty Γ117 q70 8 := hx118.one t_q70 (by decide)
  replace t_q85 : ty Γ117 q85 9 := hx118.one t_q85 (by decide)
  have t_h0 : ty Γ117 h0 1 := by rw [eΓ117]; unfold ty; rw [va_up_self]
  clear z_own
  refine W.widen (k := 24) (n := 6604) (by omega) (by omega) ?_
  exact W.vret hx hb hr (fun t ht hW => ⟨⟨(Γ117, g57), rfl, ⟨hX120, hU, hL119, t_h0, (fun c j h82 => by (try dsimp only); rw [hf60 c j h82, hf46 c j h82]), (show g57 82 = fz (fz (g 82) 0 (-1) 53) 64 (-1) 53 from (by rw [hq63] <;> rfl))⟩, ok2 ht hG⟩, hS.F ht⟩) hS.2.2 dX8_init_112
