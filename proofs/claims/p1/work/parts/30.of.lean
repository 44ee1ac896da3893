set_option maxHeartbeats 4000000 in
set_option maxRecDepth 100000 in
/-- WeekBank.of:  -/
theorem f_X8_of (l : Launch) (dC : Nat → ClassId) (dI : Nat → Nat → Nat) (dA : Nat → ClassId) (sz : Nat) (X : va_W) (Γ : ty_G) (hU : Un Γ) (g : gh) (hl9 : l.stackTraces = false) (h0 : Nat) (t_h0 : ty Γ h0 1) (p1 : Int32) (p2 : Int32) (f3 : g 3 0 = 0) : vx_Met l yX8_of (.code yX8_of cX8_of 4 (Option.some Jvm.ClassFile.FieldType.int) :: AL) ({ frames := 6, cells := 1, slots := 6, locals := 82 }) (PCx dC dI dA sz X Γ g [.ref h0, .int p1, .int p2]) (va_Qi (fun (r : Int32) (u : gh) => u = g ∧ ((False))) (okb dC dI dA sz X Γ) (ty_A sz)) (vx_X (fun (u : gh) => u = g ∧ (True)) (fun E u t => E = nse ∧ okb dC dI dA sz X Γ u t) (ty_A sz)) 1 6 (ty_A sz) := by
  refine vx_ofW (cc := cX8_of) (maxL := 4) (ret := (Option.some Jvm.ClassFile.FieldType.int)) (by decide) rfl ?_
  intro p e s m args below meth c s₁ B hml ht0 hv
  obtain ⟨rfl, hG, hE⟩ := hv
  have hx := B.exec
  have hb := B.bytes
  have hr := B.returns
  have hts := atoms_spec B.pre
  have hA : ∀ w ∈ AL, w.before _ s = true := fun w h => hts w (List.mem_cons_of_mem _ h)
  have hown : s.vm.findClass RX8 = some m.cls := findClass_of_methodNamed B.named
  have hlocks := B.notSynchronized
  have hS : va_S (ty_A sz) s.heap s.heap [] := va_S.rf
  have hl := lv_entry ([.ref h0, .int p1, .int p2]) (n := 4) (Nat.le_of_ble_eq_true rfl)
  rw [lg_entry_eq]
  generalize (lg_sl ([.ref h0, .int p1, .int p2]) ++ List.replicate (4 - (lg_sl ([.ref h0, .int p1, .int p2])).length) Slot.unset).toArray = ls at hl ⊢
  have hl : lv_has ls 4 [(0, .ref h0), (1, .int p1), (2, .int p2)] := hl
  refine lv_aload_n hx hb dX8_of_0 rfl (lv_at hl 0 rfl) ?_
  refine lv_iload_n hx hb dX8_of_1 rfl (lv_at hl 1 rfl) ?_
  refine cQ (va_runV (C := RX8) (As := [.int p1]) (rest := []) ⟨hx, hb, hml, hown, hA⟩ (f_X8_giftAt l dC dI dA sz X Γ hU g h0 t_h0 p1   (by omega)) ⟨callB_of 1 hA (al_A wd_3_76) rfl rfl rfl (hA _ wd_1_1) (hA _ wd_3_73) (by decide +kernel) ⟨Nat.le_of_ble_eq_true rfl, Nat.le_of_ble_eq_true rfl⟩, hA _ wd_3_75, hA _ ws_18⟩ ⟨bl, recv_X8 hE hG t_h0, fun U hU9 hW9 => ⟨rfl, by rw [hU9]; exact hG, hE.go hS hU9 hW9⟩⟩ rfl rfl hl.1 rfl (lv_room (Nat.le_of_ble_eq_true rfl)) dX8_of_2 ⟨Nat.zero_le _, Nat.zero_le _⟩) hS (fun r3 u1 H locs w2 hG hS => ?_)
  obtain ⟨t_r3, w2⟩ := w2
  obtain ⟨eu4, w2⟩ := w2
  rw [eu4] at hG
  subst w2
  refine lv_astore_nN (lv' := [(3, .null), (0, .ref h0), (1, .int p1), (2, .int p2)]) hx hb dX8_of_5 rfl hl (by decide) rfl (fun ls hl => ?_)
  refine lv_aload_nN hx hb dX8_of_6 rfl (lv_at hl 0 rfl) ?_
  refine lv_ifnonnullN hx hb dX8_of_7 ?_
  obtain ⟨sa, hsa⟩ := hE.2.2.2.2.2.2.2.1
  exact cx_throw hx hb hl9 (rx := rx13) (ix := 13) rx13_0 rx13_1 rx13_2 rx13_5 hown (by decide) (by decide) (hA _ wd_4_58) (hA _ wd_1_21) hsa (cx_atoms hA hE.2.2.2.2.2) hE.2.2.2.2.2.1.1 hE.2.2.2.2.2.1.2 hS (hl.1.trans hml.symm) dX8_of_10 dX8_of_13 dX8_of_14 dX8_of_17 dX8_of_20 (fun x hx => (ht0 x hx).elim) (Nat.le_of_ble_eq_true rfl) (Nat.le_of_ble_eq_true rfl) (Nat.le_of_ble_eq_true rfl) (Nat.le_of_ble_eq_true rfl) hlocks (fun t _ z1 z2 => ⟨g, ⟨rfl, trivial⟩, ⟨rfl, ty_grow hG z1 z2⟩, Nat.le_trans hS.1 z1, fun q hq hn => (z2 q (Nat.lt_of_lt_of_le hq hS.1)).trans (hS.2.1 q hq hn)⟩) hS.2.2 (Nat.le_of_ble_eq_true rfl) (Nat.le_of_ble_eq_true rfl)

set_option maxHeartbeats 4000000 in
set_option maxRecDepth 100000 in
/-- the law's own of, on a fresh object -/
theorem f_L_of (l : Launch) (hl9 : l.stackTraces = false) (dC : Nat → ClassId) (dI : Nat → Nat → Nat) (dA : Nat → ClassId) (sz : Nat) (X : va_W) (Γ : ty_G) (hU : Un Γ) (g : gh) (h0 : Nat) (t_h0 : ty Γ h0 1) (p1 p2 : Int32) (h3 : Nat) (t_h3 : ty Γ h3 25) (f3 : g 3 0 = 0) : vx_Met l yL_of (.codeWith yL_of cL_of 5 (some .int) [(0, 10, 13, 13)] :: AL) ({ frames := 7, cells := 1, slots := 6, locals := 105 }) (PCx dC dI dA sz X Γ g [.ref h0, .int p1, .int p2, .ref h3]) (va_Qi (fun (r : Int32) (u : gh) => u = g ∧ r.toInt = 1) (okb dC dI dA sz X Γ) (ty_A sz)) (vx_X (fun (_ : gh) => False) (fun _ _ _ => False) (ty_A sz)) 1 6 (ty_A sz) := by
  refine vx_ofWH (cc := cL_of) (maxL := 5) (ret := some .int) (by decide) rfl ?_
  intro p e s m args below meth c s₁ B hml hv
  obtain ⟨rfl, hG, hE⟩ := hv
  have hx := B.exec
  have hb := B.bytes
  have hr := B.returns
  have hts := atoms_spec B.pre
  have hA : ∀ w ∈ AL, w.before _ s = true := fun w h => hts w (List.mem_cons_of_mem _ h)
  have hown : s.vm.findClass RL = some m.cls := findClass_of_methodNamed B.named
  have hlocks := B.notSynchronized
  have hTb : c.exceptionTable.toList = tableOf [(0, 10, 13, 13)] := vx_table (x := yL_of) B (hts _ List.mem_cons_self)
  have hS : va_S (ty_A sz) s.heap s.heap [] := va_S.rf
  have hl := lv_entry ([.ref h0, .int p1, .int p2, .ref h3]) (n := 5) (Nat.le_of_ble_eq_true rfl)
  rw [lg_entry_eq]
  generalize (lg_sl ([.ref h0, .int p1, .int p2, .ref h3]) ++ List.replicate (5 - (lg_sl ([.ref h0, .int p1, .int p2, .ref h3])).length) Slot.unset).toArray = ls at hl ⊢
  have hl : lv_has ls 5 [(0, .ref h0), (1, .int p1), (2, .int p2), (3, .ref h3)] := hl
  refine lv_aload_n hx hb dL_of_0 rfl (lv_at hl 3 rfl) ?_
  refine ty_iconst hx hb (0) dL_of_1 (by decide) (fun x1 h1 => ?_)
  refine lv_aload_n hx hb dL_of_2 rfl (lv_at hl 0 rfl) ?_
  refine lv_iload_n hx hb dL_of_3 rfl (lv_at hl 1 rfl) ?_
  refine lv_iload_n hx hb dL_of_4 rfl (lv_at hl 2 rfl) ?_
  refine vx_calli (vx_runV (C := RX8) (As := [.int p1, .int p2]) (rest := [.int x1, .ref h3]) ⟨hx, hb, hml, hown, hA⟩ (f_X8_of l dC dI dA sz X Γ hU g hl9 h0 t_h0 p1 p2 f3) ⟨callB_of 2 hA (al_A wd_4_57) rfl rfl rfl (hA _ wd_1_1) (hA _ wd_4_54) (by decide +kernel) ⟨Nat.le_of_ble_eq_true rfl, Nat.le_of_ble_eq_true rfl⟩, hA _ wd_4_55, hA _ wd_4_56⟩ ⟨bl, recv_X8 hE hG t_h0, fun U hU9 hW9 => ⟨rfl, by rw [hU9]; exact hG, hE.go hS hU9 hW9⟩⟩ rfl rfl hl.1 rfl (lv_room (Nat.le_of_ble_eq_true rfl)) dL_of_5 ⟨Nat.le_of_ble_eq_true rfl, Nat.le_of_ble_eq_true rfl⟩) hS (fun _ _ h => h) (fun _ h => h) (fun _ _ h => h) (fun E ce q9 u t H1 locs1 ht _ hp hB _ _ hS hce hcv hcl => ?_) (fun r u t H1 locs1 ht _ hp hB _ _ hS => (hp.2).elim)
  obtain ⟨rfl, hG⟩ := hB
  have hG : ty_ok (dC, dI) vwCl Γ (TP dA Γ g) sz X H1 := by rw [← ht, ← hp.1]; exact hG
  refine ct_catch (E := nse) (own := RL) (name := nse) hown _ [] hTb rfl (by decide) (hA _ wd_4_53) (va_Nw.use rfl hE.2.2.2.2.2.2.1.2.2.2) hce hcv hcl ?_
  refine lv_astore (lv' := [(4, .ref q9), (0, .ref h0), (1, .int p1), (2, .int p2), (3, .ref h3)]) hx hb dL_of_13 hl (by decide) rfl (fun ls hl => ?_)
  refine ty_iconst hx hb (1) dL_of_15 (by decide) (fun x2 h2 => ?_)
  refine vx_ret ?_
  refine W.widen (k := 1) (n := 6) (by omega) (by omega) ?_
  exact W.iret (v := x2) hx hb hr (fun t ht hW => ⟨⟨x2, g, rfl, ⟨rfl, by omega⟩, ok1 ht hG⟩, hS.F ht⟩) hS.2.2 dL_of_16
