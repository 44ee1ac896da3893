set_option maxHeartbeats 4000000 in
set_option maxRecDepth 100000 in
/-- WeekBankModel.passes:  -/
theorem k_X9_passes (l : Launch) (dC : Nat → ClassId) (dI : Nat → Nat → Nat) (dA : Nat → ClassId) (sz : Nat) (X : va_W) (Γ : ty_G) (hU : Un Γ) (g : gh) (h0 : Nat) (t_h0 : ty Γ h0 30) (p1 : Int32) (m26 : 0 ≤ g 126 0 ∧ g 126 0 ≤ 200) (hIJ : IJ g) : Met l yX9_passes (.code yX9_passes cX9_passes 3 (Option.none : Option Jvm.ClassFile.FieldType) :: AL) ({ frames := 0, cells := 0, slots := 0, locals := 0 }) (PCx dC dI dA sz X Γ g [.ref h0, .int p1]) (va_Qv (fun (u : gh) => (∀ c j : Nat, c ≠ 132 → u c j = g c j) ∧ (IJ u) ∧ (u 132 = eu_f (g 132) (g 129) p1.toInt (g 126 0).toNat)) (okb dC dI dA sz X Γ) (ty_A sz)) 0 0 (ty_A sz) := by
  refine Met.ofW (cc := cX9_passes) (maxL := 3) (ret := (Option.none : Option Jvm.ClassFile.FieldType)) (by decide) rfl ?_
  intro p e s m args below meth c s₁ B hml hv
  obtain ⟨rfl, hG, hE⟩ := hv
  have hx := B.exec
  have hb := B.bytes
  have hr := B.returns
  have hts := atoms_spec B.pre
  have hA : ∀ w ∈ AL, w.before _ s = true := fun w h => hts w (List.mem_cons_of_mem _ h)
  have hown : s.vm.findClass RX9 = some m.cls := findClass_of_methodNamed B.named
  have hlocks := B.notSynchronized
  have hS : va_S (ty_A sz) s.heap s.heap [] := va_S.rf
  have hl := lv_entry ([.ref h0, .int p1]) (n := 3) (Nat.le_of_ble_eq_true rfl)
  rw [lg_entry_eq]
  generalize (lg_sl ([.ref h0, .int p1]) ++ List.replicate (3 - (lg_sl ([.ref h0, .int p1])).length) Slot.unset).toArray = ls at hl ⊢
  have hl : lv_has ls 3 [(0, .ref h0), (1, .int p1)] := hl
  refine ty_iconst hx hb (0) dX9_passes_0 (by decide) (fun x1 h2 => ?_)
  refine lv_istore_n (lv' := [(2, .int x1), (0, .ref h0), (1, .int p1)]) hx hb dX9_passes_1 rfl hl (by decide) rfl (fun ls hl => ?_)
  have L_2 : ∀ (n : Nat) (v2_2 : Int32) (g3 : gh) (H : Heap) (locs : List Loc) (ls : Array Slot), (g3 126 0 - v2_2.toInt : Int) < n → 0 ≤ v2_2.toInt ∧ v2_2.toInt ≤ g3 126 0 → (∀ c j : Nat, c ≠ 132 → g3 c j = g c j) → (IJ g3) → (g3 132 = eu_f (g 132) (g 129) p1.toInt v2_2.toInt.toNat) → ty_ok (dC, dI) vwCl Γ (TP dA Γ g3) sz X H → va_S (ty_A sz) s.heap H locs → lv_has ls 3 [(2, .int v2_2), (0, .ref h0), (1, .int p1)] → W p l e (headSpec (.code yX9_passes cX9_passes 3 (Option.none : Option Jvm.ClassFile.FieldType) :: AL) ({ frames := 0, cells := 0, slots := 0, locals := 0 })).room s m ([.ref h0, .int p1] : List Value).toArray below meth c H locs 0 0 (MQ below (va_Qv (fun (u : gh) => (∀ c j : Nat, c ≠ 132 → u c j = g c j) ∧ (IJ u) ∧ (u 132 = eu_f (g 132) (g 129) p1.toInt (g 126 0).toNat)) (okb dC dI dA sz X Γ) (ty_A sz)) ([.ref h0, .int p1] : List Value).toArray s 0 0 (ty_A sz)) (F0 m 2 ls []) := by
    intro n
    induction n with
    | zero => intro v2_2 g3 H locs ls hm hi0 hf4 hq0 hq1 hG hS hl; exfalso; omega
    | succ n ih_2 =>
      intro v2_2 g3 H locs ls hm hi0 hf4 hq0 hq1 hG hS hl
      have hk5 : g3 126 0 = g 126 0 := hf4 126 0 (by decide)
      have he9 : g3 132 v2_2.toInt.toNat = g 132 v2_2.toInt.toNat := by rw [hq1]; exact eu_at
      refine lv_iload_n hx hb dX9_passes_2 rfl (lv_at hl 0 rfl) ?_
      refine lv_aload_n hx hb dX9_passes_3 rfl (lv_at hl 1 rfl) ?_
      refine get_X9_26 hx hb hA hown hE hG t_h0 wd_4_156 dX9_passes_4 (fun x6 h7 => ?_)
      refine ty_icmp_ge (tgt := 52) hx hb dX9_passes_7 (by decide) (fun c9 => ?_) (fun c9 => ?_)
      · skip
        exact W.vret hx hb hr (fun t ht hW => ⟨⟨g3, rfl, ⟨(fun c j h132 => by rw [hf4 c j h132]), (by (repeat (first | with_reducible assumption | (refine IJ_c (by decide) (by decide) (by decide) ?_) | (refine IJ_take (by omega) (by omega) ?_) | (refine IJ_how (by omega) ?_) | (refine IJ_by (by omega) ?_)))), (by rw [hq1, show v2_2.toInt.toNat = (g 126 0).toNat by omega])⟩, ok1 ht hG⟩, hS.F ht⟩) hS.2.2 dX9_passes_52
      · skip
        refine lv_aload_n hx hb dX9_passes_10 rfl (lv_at hl 1 rfl) ?_
        refine get_X9_32 hx hb hA hown hE hG t_h0 wd_4_162 dX9_passes_11 (fun b10 (t_b10 : ty Γ b10 132) => ?_)
        refine lv_iload_n hx hb dX9_passes_14 rfl (lv_at hl 0 rfl) ?_
        refine ald_mI hx hb hE hG 32 rfl (n := 200) rfl (lo := 0) (hi := 5) rfl rfl t_b10 (by omega) dX9_passes_15 (fun j12 x11 h13 h14 h15 => ?_)
        obtain rfl : j12 = v2_2.toInt.toNat := by omega
        replace h14 : x11.toInt = g3 132 v2_2.toInt.toNat := h14
        refine ty_if_eq (tgt := 29) hx hb dX9_passes_16 (by decide) (fun c16 => ?_) (fun c16 => ?_)
        · skip
          refine lv_aload_n hx hb dX9_passes_29 rfl (lv_at hl 1 rfl) ?_
          refine get_X9_29 hx hb hA hown hE hG t_h0 wd_4_159 dX9_passes_30 (fun b17 (t_b17 : ty Γ b17 129) => ?_)
          refine lv_iload_n hx hb dX9_passes_33 rfl (lv_at hl 0 rfl) ?_
          refine ald_mI hx hb hE hG 29 rfl (n := 200) rfl (lo := -2147483648) (hi := 2147483647) rfl rfl t_b17 (by omega) dX9_passes_34 (fun j19 x18 h20 h21 h22 => ?_)
          clear h22
          obtain rfl : j19 = v2_2.toInt.toNat := by omega
          replace h21 : x18.toInt = g3 129 v2_2.toInt.toNat := h21
          have hk23 : g3 129 v2_2.toInt.toNat = g 129 v2_2.toInt.toNat := hf4 129 v2_2.toInt.toNat (by decide)
          refine lv_iload_n hx hb dX9_passes_35 rfl (lv_at hl 2 rfl) ?_
          refine ty_icmp_gt (tgt := 46) hx hb dX9_passes_36 (by decide) (fun c24 => ?_) (fun c24 => ?_)
          · skip
            obtain ⟨x25, h26⟩ : ∃ y : Int32, y = v2_2 + Int32.ofInt (1) := ⟨_, rfl⟩
            try have h27 : x25.toInt = v2_2.toInt + (1) := ty_inc h26 (by decide) (by omega) (by omega)
            refine lv_iinc (v := x25) (lv' := [(2, .int x25), (0, .ref h0), (1, .int p1)]) hx hb dX9_passes_46 hl (k := 0) rfl h26.symm (by decide) rfl (fun ls hl => ?_)
            refine lv_goto (tgt := 2) hx hb dX9_passes_49 (by decide) ?_
            exact ih_2 x25 g3 _ _ ls (by omega) (by omega) (fun c j h132 => by rw [hf4 c j h132]) (by (repeat (first | with_reducible assumption | (refine IJ_c (by decide) (by decide) (by decide) ?_) | (refine IJ_take (by omega) (by omega) ?_) | (refine IJ_how (by omega) ?_) | (refine IJ_by (by omega) ?_)))) (eu_n (by omega) (by omega) hq1) hG hS (lv_sub hl [0, 1, 2] rfl)
          · skip
            refine lv_aload_n hx hb dX9_passes_39 rfl (lv_at hl 1 rfl) ?_
            refine get_X9_32 hx hb hA hown hE hG t_h0 wd_4_162 dX9_passes_40 (fun b28 (t_b28 : ty Γ b28 132) => ?_)
            refine lv_iload_n hx hb dX9_passes_43 rfl (lv_at hl 0 rfl) ?_
            refine ty_iconst hx hb (5) dX9_passes_44 (by decide) (fun x29 h30 => ?_)
            refine ast_mI hx hb hE hG hS hU 32 rfl (n := 200) rfl (lo := 0) (hi := 5) rfl rfl rfl t_b28 (by omega) (by omega) dX9_passes_45 (fun H locs hG hS => ?_)
            obtain ⟨x31, h32⟩ : ∃ y : Int32, y = v2_2 + Int32.ofInt (1) := ⟨_, rfl⟩
            try have h33 : x31.toInt = v2_2.toInt + (1) := ty_inc h32 (by decide) (by omega) (by omega)
            refine lv_iinc (v := x31) (lv' := [(2, .int x31), (0, .ref h0), (1, .int p1)]) hx hb dX9_passes_46 hl (k := 0) rfl h32.symm (by decide) rfl (fun ls hl => ?_)
            refine lv_goto (tgt := 2) hx hb dX9_passes_49 (by decide) ?_
            have e34 : (gs g3 132 v2_2.toInt.toNat x29.toInt) 126 0 = g3 126 0 := by rw [gs_c _ _ _ _ (by decide)]
            exact ih_2 x31 (gs g3 132 v2_2.toInt.toNat x29.toInt) _ _ ls (by omega) (by omega) (fun c j h132 => by rw [gs_c _ _ _ _ h132, hf4 c j h132]) (by (repeat (first | with_reducible assumption | (refine IJ_c (by decide) (by decide) (by decide) ?_) | (refine IJ_take (by omega) (by omega) ?_) | (refine IJ_how (by omega) ?_) | (refine IJ_by (by omega) ?_)))) (by rw [pz_gs]; exact eu_s (by omega) (by omega) (by omega) (by omega) hq1) hG hS (lv_sub hl [0, 1, 2] rfl)
        · skip
          refine lv_aload_n hx hb dX9_passes_19 rfl (lv_at hl 1 rfl) ?_
          refine get_X9_32 hx hb hA hown hE hG t_h0 wd_4_162 dX9_passes_20 (fun b35 (t_b35 : ty Γ b35 132) => ?_)
          refine lv_iload_n hx hb dX9_passes_23 rfl (lv_at hl 0 rfl) ?_
          refine ald_mI hx hb hE hG 32 rfl (n := 200) rfl (lo := 0) (hi := 5) rfl rfl t_b35 (by omega) dX9_passes_24 (fun j37 x36 h38 h39 h40 => ?_)
          obtain rfl : j37 = v2_2.toInt.toNat := by omega
          replace h39 : x36.toInt = g3 132 v2_2.toInt.toNat := h39
          refine ty_iconst hx hb (2) dX9_passes_25 (by decide) (fun x41 h42 => ?_)
          refine ty_icmp_ne (tgt := 46) hx hb dX9_passes_26 (by decide) (fun c43 => ?_) (fun c43 => ?_)
          · skip
            obtain ⟨x44, h45⟩ : ∃ y : Int32, y = v2_2 + Int32.ofInt (1) := ⟨_, rfl⟩
            try have h46 : x44.toInt = v2_2.toInt + (1) := ty_inc h45 (by decide) (by omega) (by omega)
            refine lv_iinc (v := x44) (lv' := [(2, .int x44), (0, .ref h0), (1, .int p1)]) hx hb dX9_passes_46 hl (k := 0) rfl h45.symm (by decide) rfl (fun ls hl => ?_)
            refine lv_goto (tgt := 2) hx hb dX9_passes_49 (by decide) ?_
            exact ih_2 x44 g3 _ _ ls (by omega) (by omega) (fun c j h132 => by rw [hf4 c j h132]) (by (repeat (first | with_reducible assumption | (refine IJ_c (by decide) (by decide) (by decide) ?_) | (refine IJ_take (by omega) (by omega) ?_) | (refine IJ_how (by omega) ?_) | (refine IJ_by (by omega) ?_)))) (eu_n (by omega) (by omega) hq1) hG hS (lv_sub hl [0, 1, 2] rfl)
          · skip
            refine lv_aload_n hx hb dX9_passes_29 rfl (lv_at hl 1 rfl) ?_
            refine get_X9_29 hx hb hA hown hE hG t_h0 wd_4_159 dX9_passes_30 (fun b47 (t_b47 : ty Γ b47 129) => ?_)
            refine lv_iload_n hx hb dX9_passes_33 rfl (lv_at hl 0 rfl) ?_
            refine ald_mI hx hb hE hG 29 rfl (n := 200) rfl (lo := -2147483648) (hi := 2147483647) rfl rfl t_b47 (by omega) dX9_passes_34 (fun j49 x48 h50 h51 h52 => ?_)
            clear h52
            obtain rfl : j49 = v2_2.toInt.toNat := by omega
            replace h51 : x48.toInt = g3 129 v2_2.toInt.toNat := h51
            have hk53 : g3 129 v2_2.toInt.toNat = g 129 v2_2.toInt.toNat := hf4 129 v2_2.toInt.toNat (by decide)
            refine lv_iload_n hx hb dX9_passes_35 rfl (lv_at hl 2 rfl) ?_
            refine ty_icmp_gt (tgt := 46) hx hb dX9_passes_36 (by decide) (fun c54 => ?_) (fun c54 => ?_)
            · skip
              obtain ⟨x55, h56⟩ : ∃ y : Int32, y = v2_2 + Int32.ofInt (1) := ⟨_, rfl⟩
              try have h57 : x55.toInt = v2_2.toInt + (1) := ty_inc h56 (by decide) (by omega) (by omega)
              refine lv_iinc (v := x55) (lv' := [(2, .int x55), (0, .ref h0), (1, .int p1)]) hx hb dX9_passes_46 hl (k := 0) rfl h56.symm (by decide) rfl (fun ls hl => ?_)
              refine lv_goto (tgt := 2) hx hb dX9_passes_49 (by decide) ?_
              exact ih_2 x55 g3 _ _ ls (by omega) (by omega) (fun c j h132 => by rw [hf4 c j h132]) (by (repeat (first | with_reducible assumption | (refine IJ_c (by decide) (by decide) (by decide) ?_) | (refine IJ_take (by omega) (by omega) ?_) | (refine IJ_how (by omega) ?_) | (refine IJ_by (by omega) ?_)))) (eu_n (by omega) (by omega) hq1) hG hS (lv_sub hl [0, 1, 2] rfl)
            · skip
              refine lv_aload_n hx hb dX9_passes_39 rfl (lv_at hl 1 rfl) ?_
              refine get_X9_32 hx hb hA hown hE hG t_h0 wd_4_162 dX9_passes_40 (fun b58 (t_b58 : ty Γ b58 132) => ?_)
              refine lv_iload_n hx hb dX9_passes_43 rfl (lv_at hl 0 rfl) ?_
              refine ty_iconst hx hb (5) dX9_passes_44 (by decide) (fun x59 h60 => ?_)
              refine ast_mI hx hb hE hG hS hU 32 rfl (n := 200) rfl (lo := 0) (hi := 5) rfl rfl rfl t_b58 (by omega) (by omega) dX9_passes_45 (fun H locs hG hS => ?_)
              obtain ⟨x61, h62⟩ : ∃ y : Int32, y = v2_2 + Int32.ofInt (1) := ⟨_, rfl⟩
              try have h63 : x61.toInt = v2_2.toInt + (1) := ty_inc h62 (by decide) (by omega) (by omega)
              refine lv_iinc (v := x61) (lv' := [(2, .int x61), (0, .ref h0), (1, .int p1)]) hx hb dX9_passes_46 hl (k := 0) rfl h62.symm (by decide) rfl (fun ls hl => ?_)
              refine lv_goto (tgt := 2) hx hb dX9_passes_49 (by decide) ?_
              have e64 : (gs g3 132 v2_2.toInt.toNat x59.toInt) 126 0 = g3 126 0 := by rw [gs_c _ _ _ _ (by decide)]
              exact ih_2 x61 (gs g3 132 v2_2.toInt.toNat x59.toInt) _ _ ls (by omega) (by omega) (fun c j h132 => by rw [gs_c _ _ _ _ h132, hf4 c j h132]) (by (repeat (first | with_reducible assumption | (refine IJ_c (by decide) (by decide) (by decide) ?_) | (refine IJ_take (by omega) (by omega) ?_) | (refine IJ_how (by omega) ?_) | (refine IJ_by (by omega) ?_)))) (by rw [pz_gs]; exact eu_s (by omega) (by omega) (by omega) (by omega) hq1) hG hS (lv_sub hl [0, 1, 2] rfl)
  exact L_2 ((g 126 0 - x1.toInt) + 1).toNat x1 g _ _ ls (by omega) (by omega) (fun c j _ => rfl) (by (repeat (first | with_reducible assumption | (refine IJ_c (by decide) (by decide) (by decide) ?_) | (refine IJ_take (by omega) (by omega) ?_) | (refine IJ_how (by omega) ?_) | (refine IJ_by (by omega) ?_)))) (eu_0 (by omega)) hG hS (lv_sub hl [0, 1, 2] rfl)

set_option maxHeartbeats 4000000 in
set_option maxRecDepth 100000 in
/-- WeekBankModel.weeks:  -/
theorem k_X9_weeks (l : Launch) (dC : Nat → ClassId) (dI : Nat → Nat → Nat) (dA : Nat → ClassId) (sz : Nat) (X : va_W) (Γ : ty_G) (hU : Un Γ) (g : gh) (h0 : Nat) (t_h0 : ty Γ h0 30) (p1 : Int32) (m26 : 0 ≤ g 126 0 ∧ g 126 0 ≤ 200) (m12 : 0 ≤ g 112 0 ∧ g 112 0 ≤ 52) (hIJ : IJ g) : Met l yX9_weeks (.code yX9_weeks cX9_weeks 2 (Option.some Jvm.ClassFile.FieldType.int) :: AL) ({ frames := 1, cells := 0, slots := 0, locals := 22 }) (PCx dC dI dA sz X Γ g [.ref h0, .int p1]) (va_Qi (fun (r : Int32) (u : gh) => (∀ c j : Nat, c ≠ 100 → c ≠ 112 → c ≠ 132 → u c j = g c j) ∧ ((1 ≤ p1.toInt ∧ p1.toInt ≤ 52 - g 112 0 → r.toInt = g 112 0 + p1.toInt ∧ u 112 0 = r.toInt) ∧ (¬ (1 ≤ p1.toInt ∧ p1.toInt ≤ 52 - g 112 0) → r.toInt = -1 ∧ u 112 0 = g 112 0)) ∧ (IJ u) ∧ ((1 ≤ p1.toInt ∧ p1.toInt ≤ 52 - g 112 0 → u 132 = eu_f (g 132) (g 129) (g 112 0 + p1.toInt) (g 126 0).toNat) ∧ (¬ (1 ≤ p1.toInt ∧ p1.toInt ≤ 52 - g 112 0) → u 132 = g 132))) (okb dC dI dA sz X Γ) (ty_A sz)) 0 0 (ty_A sz) := by
  refine Met.ofW (cc := cX9_weeks) (maxL := 2) (ret := (Option.some Jvm.ClassFile.FieldType.int)) (by decide) rfl ?_
  intro p e s m args below meth c s₁ B hml hv
  obtain ⟨rfl, hG, hE⟩ := hv
  have hx := B.exec
  have hb := B.bytes
  have hr := B.returns
  have hts := atoms_spec B.pre
  have hA : ∀ w ∈ AL, w.before _ s = true := fun w h => hts w (List.mem_cons_of_mem _ h)
  have hown : s.vm.findClass RX9 = some m.cls := findClass_of_methodNamed B.named
  have hlocks := B.notSynchronized
  have hS : va_S (ty_A sz) s.heap s.heap [] := va_S.rf
  have hl := lv_entry ([.ref h0, .int p1]) (n := 2) (Nat.le_of_ble_eq_true rfl)
  rw [lg_entry_eq]
  generalize (lg_sl ([.ref h0, .int p1]) ++ List.replicate (2 - (lg_sl ([.ref h0, .int p1])).length) Slot.unset).toArray = ls at hl ⊢
  have hl : lv_has ls 2 [(0, .ref h0), (1, .int p1)] := hl
  refine lv_aload_n hx hb dX9_weeks_0 rfl (lv_at hl 0 rfl) ?_
  refine ty_iconst hx hb (0) dX9_weeks_1 (by decide) (fun x1 h2 => ?_)
  refine put_X9_0 hx hb hA hown hE hG hS hU t_h0 wd_4_130 dX9_weeks_2 (fun H locs hG hS => ?_)
  refine lv_iload_n hx hb dX9_weeks_5 rfl (lv_at hl 1 rfl) ?_
  refine ty_iconst hx hb (1) dX9_weeks_6 (by decide) (fun x3 h4 => ?_)
  refine ty_bipush hx hb (52) dX9_weeks_7 (by decide) (fun x5 h6 => ?_)
  refine cI (va_runS (As := [.int p1, .int x3, .int x5]) (rest := []) ⟨hx, hb, hml, hown, hA⟩ (k_X9_within l dC dI dA sz X Γ hU (gs g 100 0 x1.toInt) p1 x3 x5   ) ⟨callB_of 3 hA (al_A wd_5_38) rfl rfl rfl (hA _ wd_1_7) (hA _ wd_5_36) (by decide +kernel) ⟨Nat.le_of_ble_eq_true rfl, Nat.le_of_ble_eq_true rfl⟩, hA _ wd_5_37⟩ ⟨bl, fun U hU9 hW9 => ⟨rfl, by rw [hU9]; exact hG, hE.go hS hU9 hW9⟩⟩ rfl rfl hl.1 rfl (lv_room (Nat.le_of_ble_eq_true rfl)) dX9_weeks_9 ⟨Nat.zero_le _, Nat.zero_le _⟩) hS (fun x9 u7 H locs w8 hG hS => ?_)
  obtain ⟨eu10, w8⟩ := w8
  rw [eu10] at hG
  refine ty_if_eq (tgt := 26) hx hb dX9_weeks_12 (by decide) (fun c11 => ?_) (fun c11 => ?_)
  · skip
    refine ty_iconst hx hb (-1) dX9_weeks_26 (by decide) (fun x12 h13 => ?_)
    have e14 : (gs g 100 0 x1.toInt) 112 0 = g 112 0 := by rw [gs_c _ _ _ _ (by decide)]
    exact W.iret (v := x12) hx hb hr (fun t ht hW => ⟨⟨x12, (gs g 100 0 x1.toInt), rfl, ⟨(fun c j h100 h112 h132 => by rw [gs_c _ _ _ _ h100]), (by omega), (by (repeat (first | with_reducible assumption | (refine IJ_c (by decide) (by decide) (by decide) ?_) | (refine IJ_take (by omega) (by omega) ?_) | (refine IJ_how (by omega) ?_) | (refine IJ_by (by omega) ?_)))), (⟨fun q => absurd q (by omega), fun _ => by rw [gs_r _ _ _ (by decide)]⟩)⟩, ok1 ht hG⟩, hS.F ht⟩) hS.2.2 dX9_weeks_27
  · skip
    refine lv_aload_n hx hb dX9_weeks_15 rfl (lv_at hl 0 rfl) ?_
    refine get_X9_12 hx hb hA hown hE hG t_h0 wd_4_142 dX9_weeks_16 (fun x15 h16 => ?_)
    replace h16 : x15.toInt = g 112 0 := by rw [h16, gs_c _ _ _ _ (by decide)]
    refine lv_iload_n hx hb dX9_weeks_19 rfl (lv_at hl 1 rfl) ?_
    refine ty_iadd hx hb dX9_weeks_20 (fun x18 h19 => ?_)
    try have h20 : x18.toInt = x15.toInt + p1.toInt := ty_add h19 (by omega) (by omega)
    refine ty_bipush hx hb (52) dX9_weeks_21 (by decide) (fun x21 h22 => ?_)
    refine ty_icmp_le (tgt := 28) hx hb dX9_weeks_23 (by decide) (fun c23 => ?_) (fun c23 => ?_)
    · skip
      refine lv_aload_n hx hb dX9_weeks_28 rfl (lv_at hl 0 rfl) ?_
      refine lv_dup hx hb dX9_weeks_29 rfl ?_
      refine get_X9_12 hx hb hA hown hE hG t_h0 wd_4_142 dX9_weeks_30 (fun x24 h25 => ?_)
      replace h25 : x24.toInt = g 112 0 := by rw [h25, gs_c _ _ _ _ (by decide)]
      refine lv_iload_n hx hb dX9_weeks_33 rfl (lv_at hl 1 rfl) ?_
      refine ty_iadd hx hb dX9_weeks_34 (fun x27 h28 => ?_)
      try have h29 : x27.toInt = x24.toInt + p1.toInt := ty_add h28 (by omega) (by omega)
      refine put_X9_12 hx hb hA hown hE hG hS hU t_h0 wd_4_142 dX9_weeks_35 (fun H locs hG hS => ?_)
      refine lv_aload_n hx hb dX9_weeks_38 rfl (lv_at hl 0 rfl) ?_
      refine lv_aload_n hx hb dX9_weeks_39 rfl (lv_at hl 0 rfl) ?_
      refine get_X9_12 hx hb hA hown hE hG t_h0 wd_4_142 dX9_weeks_40 (fun x30 h31 => ?_)
      replace h31 : x30.toInt = x27.toInt := by rw [h31, gs_self]
      have e33 : (gs (gs g 100 0 x1.toInt) 112 0 x27.toInt) 126 0 = g 126 0 := by rw [gs_c _ _ _ _ (by decide), gs_c _ _ _ _ (by decide)]
      refine cV (va_runV (C := RX9) (As := [.int x30]) (rest := []) ⟨hx, hb, hml, hown, hA⟩ (k_X9_passes l dC dI dA sz X Γ hU (gs (gs g 100 0 x1.toInt) 112 0 x27.toInt) h0 t_h0 x30   (by omega) (by (repeat (first | with_reducible assumption | (refine IJ_c (by decide) (by decide) (by decide) ?_) | (refine IJ_take (by omega) (by omega) ?_) | (refine IJ_how (by omega) ?_) | (refine IJ_by (by omega) ?_))))) ⟨callB_of 1 hA (al_A wd_5_197) rfl rfl rfl (hA _ wd_1_7) (hA _ wd_5_194) (by decide +kernel) ⟨Nat.le_of_ble_eq_true rfl, Nat.le_of_ble_eq_true rfl⟩, hA _ wd_5_196, hA _ ws_55⟩ ⟨bl, recv_X9 hE hG t_h0, fun U hU9 hW9 => ⟨rfl, by rw [hU9]; exact hG, hE.go hS hU9 hW9⟩⟩ rfl rfl hl.1 rfl (lv_room (Nat.le_of_ble_eq_true rfl)) dX9_weeks_43 ⟨Nat.zero_le _, Nat.zero_le _⟩) hS (fun u34 H locs w35 hG hS => ?_)
      obtain ⟨hf38, hq36, hq37⟩ := w35
      have hn39 : (gs (gs g 100 0 x1.toInt) 112 0 x27.toInt) 132 = (g 132) := by rw [gs_r _ _ _ (by decide), gs_r _ _ _ (by decide)]
      rw [hn39] at hq37
      have hn40 : (gs (gs g 100 0 x1.toInt) 112 0 x27.toInt) 129 = (g 129) := by rw [gs_r _ _ _ (by decide), gs_r _ _ _ (by decide)]
      rw [hn40] at hq37
      have hn41 : (gs (gs g 100 0 x1.toInt) 112 0 x27.toInt) 126 0 = g 126 0 := by rw [gs_c _ _ _ _ (by decide), gs_c _ _ _ _ (by decide)]
      try rw [hn41] at hq37
      refine lv_aload_n hx hb dX9_weeks_46 rfl (lv_at hl 0 rfl) ?_
      refine get_X9_12 hx hb hA hown hE hG t_h0 wd_4_142 dX9_weeks_47 (fun x42 h43 => ?_)
      have hk45 : u34 112 0 = (gs (gs g 100 0 x1.toInt) 112 0 x27.toInt) 112 0 := hf38 112 0 (by decide)
      replace hk45 : u34 112 0 = x27.toInt := by rw [hk45, gs_self]
      exact W.iret (v := x42) hx hb hr (fun t ht hW => ⟨⟨x42, u34, rfl, ⟨(fun c j h100 h112 h132 => by rw [hf38 c j h132, gs_c _ _ _ _ h112, gs_c _ _ _ _ h100]), (by omega), (by (repeat (first | with_reducible assumption | (refine IJ_c (by decide) (by decide) (by decide) ?_) | (refine IJ_take (by omega) (by omega) ?_) | (refine IJ_how (by omega) ?_) | (refine IJ_by (by omega) ?_)))), (⟨fun _ => by rw [hq37] <;> exact congrArg (fun z => eu_f (g 132) (g 129) z (g 126 0).toNat) (by omega), fun q => absurd (by omega) q⟩)⟩, ok1 ht hG⟩, hS.F ht⟩) hS.2.2 dX9_weeks_50
    · skip
      refine ty_iconst hx hb (-1) dX9_weeks_26 (by decide) (fun x46 h47 => ?_)
      have e48 : (gs g 100 0 x1.toInt) 112 0 = g 112 0 := by rw [gs_c _ _ _ _ (by decide)]
      exact W.iret (v := x46) hx hb hr (fun t ht hW => ⟨⟨x46, (gs g 100 0 x1.toInt), rfl, ⟨(fun c j h100 h112 h132 => by rw [gs_c _ _ _ _ h100]), (by omega), (by (repeat (first | with_reducible assumption | (refine IJ_c (by decide) (by decide) (by decide) ?_) | (refine IJ_take (by omega) (by omega) ?_) | (refine IJ_how (by omega) ?_) | (refine IJ_by (by omega) ?_)))), (⟨fun q => absurd q (by omega), fun _ => by rw [gs_r _ _ _ (by decide)]⟩)⟩, ok1 ht hG⟩, hS.F ht⟩) hS.2.2 dX9_weeks_27

set_option maxHeartbeats 4000000 in
set_option maxRecDepth 100000 in
/-- WeekBankModel.year:  -/
theorem k_X9_year (l : Launch) (dC : Nat → ClassId) (dI : Nat → Nat → Nat) (dA : Nat → ClassId) (sz : Nat) (X : va_W) (Γ : ty_G) (hU : Un Γ) (g : gh) (h0 : Nat) (t_h0 : ty Γ h0 30) (m26 : 0 ≤ g 126 0 ∧ g 126 0 ≤ 200) (hIJ : IJ g) (f7 : 0 ≤ g 111 0 ∧ g 111 0 ≤ 100000) : Met l yX9_year (.code yX9_year cX9_year 2 (Option.some Jvm.ClassFile.FieldType.int) :: AL) ({ frames := 1, cells := 0, slots := 0, locals := 22 }) (PCx dC dI dA sz X Γ g [.ref h0]) (va_Qi (fun (r : Int32) (u : gh) => (∀ c j : Nat, c ≠ 100 → c ≠ 110 → c ≠ 111 → c ≠ 112 → c ≠ 132 → u c j = g c j) ∧ ((r.toInt = g 111 0 + 1) ∧ (u 111 0 = g 111 0 + 1) ∧ (u 112 0 = 0)) ∧ (IJ u) ∧ (u 132 = eu_f (g 132) (g 129) 52 (g 126 0).toNat) ∧ (u 110 = fz (g 110) 0 0 318)) (okb dC dI dA sz X Γ) (ty_A sz)) 0 0 (ty_A sz) := by
  refine Met.ofW (cc := cX9_year) (maxL := 2) (ret := (Option.some Jvm.ClassFile.FieldType.int)) (by decide) rfl ?_
  intro p e s m args below meth c s₁ B hml hv
  obtain ⟨rfl, hG, hE⟩ := hv
  have hx := B.exec
  have hb := B.bytes
  have hr := B.returns
  have hts := atoms_spec B.pre
  have hA : ∀ w ∈ AL, w.before _ s = true := fun w h => hts w (List.mem_cons_of_mem _ h)
  have hown : s.vm.findClass RX9 = some m.cls := findClass_of_methodNamed B.named
  have hlocks := B.notSynchronized
  have hS : va_S (ty_A sz) s.heap s.heap [] := va_S.rf
  have hl := lv_entry ([.ref h0]) (n := 2) (Nat.le_of_ble_eq_true rfl)
  rw [lg_entry_eq]
  generalize (lg_sl ([.ref h0]) ++ List.replicate (2 - (lg_sl ([.ref h0])).length) Slot.unset).toArray = ls at hl ⊢
  have hl : lv_has ls 2 [(0, .ref h0)] := hl
  refine lv_aload_n hx hb dX9_year_0 rfl (lv_at hl 0 rfl) ?_
  refine ty_iconst hx hb (0) dX9_year_1 (by decide) (fun x1 h2 => ?_)
  refine put_X9_0 hx hb hA hown hE hG hS hU t_h0 wd_4_130 dX9_year_2 (fun H locs hG hS => ?_)
  refine lv_aload_n hx hb dX9_year_5 rfl (lv_at hl 0 rfl) ?_
  refine ty_bipush hx hb (52) dX9_year_6 (by decide) (fun x3 h4 => ?_)
  have e5 : (gs g 100 0 x1.toInt) 126 0 = g 126 0 := by rw [gs_c _ _ _ _ (by decide)]
  refine cV (va_runV (C := RX9) (As := [.int x3]) (rest := []) ⟨hx, hb, hml, hown, hA⟩ (k_X9_passes l dC dI dA sz X Γ hU (gs g 100 0 x1.toInt) h0 t_h0 x3   (by omega) (by (repeat (first | with_reducible assumption | (refine IJ_c (by decide) (by decide) (by decide) ?_) | (refine IJ_take (by omega) (by omega) ?_) | (refine IJ_how (by omega) ?_) | (refine IJ_by (by omega) ?_))))) ⟨callB_of 1 hA (al_A wd_5_197) rfl rfl rfl (hA _ wd_1_7) (hA _ wd_5_194) (by decide +kernel) ⟨Nat.le_of_ble_eq_true rfl, Nat.le_of_ble_eq_true rfl⟩, hA _ wd_5_196, hA _ ws_55⟩ ⟨bl, recv_X9 hE hG t_h0, fun U hU9 hW9 => ⟨rfl, by rw [hU9]; exact hG, hE.go hS hU9 hW9⟩⟩ rfl rfl hl.1 rfl (lv_room (Nat.le_of_ble_eq_true rfl)) dX9_year_8 ⟨Nat.zero_le _, Nat.zero_le _⟩) hS (fun u6 H locs w7 hG hS => ?_)
  obtain ⟨hf10, hq8, hq9⟩ := w7
  have hn11 : (gs g 100 0 x1.toInt) 132 = (g 132) := by rw [gs_r _ _ _ (by decide)]
  rw [hn11] at hq9
  have hn12 : (gs g 100 0 x1.toInt) 129 = (g 129) := by rw [gs_r _ _ _ (by decide)]
  rw [hn12] at hq9
  have hn13 : (gs g 100 0 x1.toInt) 126 0 = g 126 0 := by rw [gs_c _ _ _ _ (by decide)]
  try rw [hn13] at hq9
  refine lv_aload_n hx hb dX9_year_11 rfl (lv_at hl 0 rfl) ?_
  refine lv_dup hx hb dX9_year_12 rfl ?_
  refine get_X9_11 hx hb hA hown hE hG t_h0 wd_4_141 dX9_year_13 (fun x14 h15 => ?_)
  have hk17 : u6 111 0 = (gs g 100 0 x1.toInt) 111 0 := hf10 111 0 (by decide)
  replace hk17 : u6 111 0 = g 111 0 := by rw [hk17, gs_c _ _ _ _ (by decide)]
  refine ty_iconst hx hb (1) dX9_year_16 (by decide) (fun x18 h19 => ?_)
  refine ty_iadd hx hb dX9_year_17 (fun x20 h21 => ?_)
  try have h22 : x20.toInt = x14.toInt + x18.toInt := ty_add h21 (by omega) (by omega)
  refine put_X9_11 hx hb hA hown hE hG hS hU t_h0 wd_4_141 dX9_year_18 (fun H locs hG hS => ?_)
  refine lv_aload_n hx hb dX9_year_21 rfl (lv_at hl 0 rfl) ?_
  refine ty_iconst hx hb (0) dX9_year_22 (by decide) (fun x23 h24 => ?_)
  refine put_X9_12 hx hb hA hown hE hG hS hU t_h0 wd_4_142 dX9_year_23 (fun H locs hG hS => ?_)
  refine ty_iconst hx hb (0) dX9_year_26 (by decide) (fun x25 h26 => ?_)
  refine lv_istore_n (lv' := [(1, .int x25), (0, .ref h0)]) hx hb dX9_year_27 rfl hl (by decide) rfl (fun ls hl => ?_)
  have L_28 : ∀ (n : Nat) (v1_28 : Int32) (g27 : gh) (H : Heap) (locs : List Loc) (ls : Array Slot), (318 - v1_28.toInt : Int) < n → 0 ≤ v1_28.toInt ∧ v1_28.toInt ≤ 318 → (∀ c j : Nat, c ≠ 110 → g27 c j = (gs (gs u6 111 0 x20.toInt) 112 0 x23.toInt) c j) → (g27 110 = fz (g 110) 0 0 v1_28.toInt.toNat) → ty_ok (dC, dI) vwCl Γ (TP dA Γ g27) sz X H → va_S (ty_A sz) s.heap H locs → lv_has ls 2 [(1, .int v1_28), (0, .ref h0)] → W p l e (headSpec (.code yX9_year cX9_year 2 (Option.some Jvm.ClassFile.FieldType.int) :: AL) ({ frames := 1, cells := 0, slots := 0, locals := 22 })).room s m ([.ref h0] : List Value).toArray below meth c H locs 0 0 (MQ below (va_Qi (fun (r : Int32) (u : gh) => (∀ c j : Nat, c ≠ 100 → c ≠ 110 → c ≠ 111 → c ≠ 112 → c ≠ 132 → u c j = g c j) ∧ ((r.toInt = g 111 0 + 1) ∧ (u 111 0 = g 111 0 + 1) ∧ (u 112 0 = 0)) ∧ (IJ u) ∧ (u 132 = eu_f (g 132) (g 129) 52 (g 126 0).toNat) ∧ (u 110 = fz (g 110) 0 0 318)) (okb dC dI dA sz X Γ) (ty_A sz)) ([.ref h0] : List Value).toArray s 0 0 (ty_A sz)) (F0 m 28 ls []) := by
    intro n
    induction n with
    | zero => intro v1_28 g27 H locs ls hm hi0 hf28 hq0 hG hS hl; exfalso; omega
    | succ n ih_28 =>
      intro v1_28 g27 H locs ls hm hi0 hf28 hq0 hG hS hl
      have hj29 : IJ g27 := IJ_cg (hf28 126 0 (by decide)) (fun j => hf28 132 j (by decide)) (fun j => hf28 134 j (by decide)) (by (repeat (first | with_reducible assumption | (refine IJ_c (by decide) (by decide) (by decide) ?_) | (refine IJ_take (by omega) (by omega) ?_) | (refine IJ_how (by omega) ?_) | (refine IJ_by (by omega) ?_))))
      refine lv_iload_n hx hb dX9_year_28 rfl (lv_at hl 0 rfl) ?_
      refine ty_sipush hx hb (318) dX9_year_29 (by decide) (fun x30 h31 => ?_)
      refine ty_icmp_ge (tgt := 48) hx hb dX9_year_32 (by decide) (fun c32 => ?_) (fun c32 => ?_)
      · skip
        refine lv_aload_n hx hb dX9_year_48 rfl (lv_at hl 1 rfl) ?_
        refine get_X9_11 hx hb hA hown hE hG t_h0 wd_4_141 dX9_year_49 (fun x33 h34 => ?_)
        have hk36 : g27 111 0 = (gs (gs u6 111 0 x20.toInt) 112 0 x23.toInt) 111 0 := hf28 111 0 (by decide)
        replace hk36 : g27 111 0 = x20.toInt := by rw [hk36, gs_c _ _ _ _ (by decide), gs_self]
        have hk37 : g27 112 0 = (gs (gs u6 111 0 x20.toInt) 112 0 x23.toInt) 112 0 := hf28 112 0 (by decide)
        replace hk37 : g27 112 0 = x23.toInt := by rw [hk37, gs_self]
        exact W.iret (v := x33) hx hb hr (fun t ht hW => ⟨⟨x33, g27, rfl, ⟨(fun c j h100 h110 h111 h112 h132 => by rw [hf28 c j h110, gs_c _ _ _ _ h112, gs_c _ _ _ _ h111, hf10 c j h132, gs_c _ _ _ _ h100]), (by omega), (by (repeat (first | with_reducible assumption | (refine IJ_c (by decide) (by decide) (by decide) ?_) | (refine IJ_take (by omega) (by omega) ?_) | (refine IJ_how (by omega) ?_) | (refine IJ_by (by omega) ?_)))), (by rw [(show g27 132 = (gs (gs u6 111 0 x20.toInt) 112 0 x23.toInt) 132 from funext fun j => hf28 132 j (by decide)), gs_r _ _ _ (by decide), gs_r _ _ _ (by decide), hq9] <;> exact congrArg (fun z => eu_f (g 132) (g 129) z (g 126 0).toNat) (by omega)), (by rw [hq0, show v1_28.toInt.toNat = 318 by omega])⟩, ok1 ht hG⟩, hS.F ht⟩) hS.2.2 dX9_year_52
      · skip
        refine lv_aload_n hx hb dX9_year_35 rfl (lv_at hl 1 rfl) ?_
        refine get_X9_10 hx hb hA hown hE hG t_h0 wd_4_140 dX9_year_36 (fun b38 (t_b38 : ty Γ b38 110) => ?_)
        refine lv_iload_n hx hb dX9_year_39 rfl (lv_at hl 0 rfl) ?_
        refine ty_iconst hx hb (0) dX9_year_40 (by decide) (fun x39 h40 => ?_)
        refine ast_mZ hx hb hE hG hS hU 10 rfl (n := 318) rfl (lo := 0) (hi := 1) rfl rfl rfl t_b38 (by omega) (by omega) (by omega) dX9_year_41 (fun H locs hG hS => ?_)
        obtain ⟨x41, h42⟩ : ∃ y : Int32, y = v1_28 + Int32.ofInt (1) := ⟨_, rfl⟩
        try have h43 : x41.toInt = v1_28.toInt + (1) := ty_inc h42 (by decide) (by omega) (by omega)
        refine lv_iinc (v := x41) (lv' := [(1, .int x41), (0, .ref h0)]) hx hb dX9_year_42 hl (k := 0) rfl h42.symm (by decide) rfl (fun ls hl => ?_)
        refine lv_goto (tgt := 28) hx hb dX9_year_45 (by decide) ?_
        exact ih_28 x41 (gs g27 110 v1_28.toInt.toNat x39.toInt) _ _ ls (by omega) (by omega) (fun c j h110 => by rw [gs_c _ _ _ _ h110, hf28 c j h110]) (by rw [pz_gs]; exact fz_s hq0 (by omega) (by omega) (by omega)) hG hS (lv_sub hl [0, 1] rfl)
  exact L_28 ((318 - x25.toInt) + 1).toNat x25 (gs (gs u6 111 0 x20.toInt) 112 0 x23.toInt) _ _ ls (by omega) (by omega) (fun c j _ => rfl) (by rw [gs_r _ _ _ (by decide), gs_r _ _ _ (by decide), (show u6 110 = (gs g 100 0 x1.toInt) 110 from funext fun j => hf10 110 j (by decide)), gs_r _ _ _ (by decide)]; exact fz_0 (by omega)) hG hS (lv_sub hl [0, 1] rfl)

set_option maxHeartbeats 4000000 in
set_option maxRecDepth 100000 in
/-- WeekBankModel.owned:  -/
theorem k_X9_owned (l : Launch) (dC : Nat → ClassId) (dI : Nat → Nat → Nat) (dA : Nat → ClassId) (sz : Nat) (X : va_W) (Γ : ty_G) (hU : Un Γ) (g : gh) (h0 : Nat) (t_h0 : ty Γ h0 30) (p1 : Int32) : Met l yX9_owned (.code yX9_owned cX9_owned 4 (Option.some Jvm.ClassFile.FieldType.int) :: AL) ({ frames := 0, cells := 0, slots := 0, locals := 0 }) (PCx dC dI dA sz X Γ g [.ref h0, .int p1]) (va_Qi (fun (r : Int32) (u : gh) => u = g ∧ ((r.toInt = (cnt 318 (g 109) p1.toInt : Int)))) (okb dC dI dA sz X Γ) (ty_A sz)) 0 0 (ty_A sz) := by
  refine Met.ofW (cc := cX9_owned) (maxL := 4) (ret := (Option.some Jvm.ClassFile.FieldType.int)) (by decide) rfl ?_
  intro p e s m args below meth c s₁ B hml hv
  obtain ⟨rfl, hG, hE⟩ := hv
  have hx := B.exec
  have hb := B.bytes
  have hr := B.returns
  have hts := atoms_spec B.pre
  have hA : ∀ w ∈ AL, w.before _ s = true := fun w h => hts w (List.mem_cons_of_mem _ h)
  have hown : s.vm.findClass RX9 = some m.cls := findClass_of_methodNamed B.named
  have hlocks := B.notSynchronized
  have hS : va_S (ty_A sz) s.heap s.heap [] := va_S.rf
  have hl := lv_entry ([.ref h0, .int p1]) (n := 4) (Nat.le_of_ble_eq_true rfl)
  rw [lg_entry_eq]
  generalize (lg_sl ([.ref h0, .int p1]) ++ List.replicate (4 - (lg_sl ([.ref h0, .int p1])).length) Slot.unset).toArray = ls at hl ⊢
  have hl : lv_has ls 4 [(0, .ref h0), (1, .int p1)] := hl
  refine ty_iconst hx hb (0) dX9_owned_0 (by decide) (fun x1 h2 => ?_)
  refine lv_istore_n (lv' := [(2, .int x1), (0, .ref h0), (1, .int p1)]) hx hb dX9_owned_1 rfl hl (by decide) rfl (fun ls hl => ?_)
  refine ty_iconst hx hb (0) dX9_owned_2 (by decide) (fun x3 h4 => ?_)
  refine lv_istore_n (lv' := [(3, .int x3), (2, .int x1), (0, .ref h0), (1, .int p1)]) hx hb dX9_owned_3 rfl hl (by decide) rfl (fun ls hl => ?_)
  have L_4 : ∀ (n : Nat) (v3_4 : Int32) (v2_4 : Int32) (H : Heap) (locs : List Loc) (ls : Array Slot), (318 - v3_4.toInt : Int) < n → 0 ≤ v3_4.toInt ∧ v3_4.toInt ≤ 318 → v2_4.toInt = (cnt v3_4.toInt.toNat (g 109) p1.toInt : Int) → ty_ok (dC, dI) vwCl Γ (TP dA Γ g) sz X H → va_S (ty_A sz) s.heap H locs → lv_has ls 4 [(3, .int v3_4), (2, .int v2_4), (0, .ref h0), (1, .int p1)] → W p l e (headSpec (.code yX9_owned cX9_owned 4 (Option.some Jvm.ClassFile.FieldType.int) :: AL) ({ frames := 0, cells := 0, slots := 0, locals := 0 })).room s m ([.ref h0, .int p1] : List Value).toArray below meth c H locs 0 0 (MQ below (va_Qi (fun (r : Int32) (u : gh) => u = g ∧ ((r.toInt = (cnt 318 (g 109) p1.toInt : Int)))) (okb dC dI dA sz X Γ) (ty_A sz)) ([.ref h0, .int p1] : List Value).toArray s 0 0 (ty_A sz)) (F0 m 4 ls []) := by
    intro n
    induction n with
    | zero => intro v3_4 v2_4 H locs ls hm hi0 hi1 hG hS hl; exfalso; omega
    | succ n ih_4 =>
      intro v3_4 v2_4 H locs ls hm hi0 hi1 hG hS hl
      refine lv_iload_n hx hb dX9_owned_4 rfl (lv_at hl 0 rfl) ?_
      refine ty_sipush hx hb (318) dX9_owned_5 (by decide) (fun x6 h7 => ?_)
      refine ty_icmp_ge (tgt := 30) hx hb dX9_owned_8 (by decide) (fun c8 => ?_) (fun c8 => ?_)
      · skip
        refine lv_iload_n hx hb dX9_owned_30 rfl (lv_at hl 1 rfl) ?_
        exact W.iret (v := v2_4) hx hb hr (fun t ht hW => ⟨⟨v2_4, g, rfl, ⟨rfl, (by rw [show (318 : Nat) = v3_4.toInt.toNat by omega]; omega)⟩, ok1 ht hG⟩, hS.F ht⟩) hS.2.2 dX9_owned_31
      · skip
        refine lv_aload_n hx hb dX9_owned_11 rfl (lv_at hl 2 rfl) ?_
        refine get_X9_9 hx hb hA hown hE hG t_h0 wd_4_139 dX9_owned_12 (fun b9 (t_b9 : ty Γ b9 109) => ?_)
        refine lv_iload_n hx hb dX9_owned_15 rfl (lv_at hl 0 rfl) ?_
        refine ald_mI hx hb hE hG 9 rfl (n := 318) rfl (lo := -2147483648) (hi := 2147483647) rfl rfl t_b9 (by omega) dX9_owned_16 (fun j11 x10 h12 h13 h14 => ?_)
        clear h14
        obtain rfl : j11 = v3_4.toInt.toNat := by omega
        replace h13 : x10.toInt = g 109 v3_4.toInt.toNat := h13
        refine lv_iload_n hx hb dX9_owned_17 rfl (lv_at hl 3 rfl) ?_
        refine ty_icmp_ne (tgt := 24) hx hb dX9_owned_18 (by decide) (fun c15 => ?_) (fun c15 => ?_)
        · skip
          obtain ⟨x16, h17⟩ : ∃ y : Int32, y = v3_4 + Int32.ofInt (1) := ⟨_, rfl⟩
          try have h18 : x16.toInt = v3_4.toInt + (1) := ty_inc h17 (by decide) (by omega) (by omega)
          refine lv_iinc (v := x16) (lv' := [(3, .int x16), (2, .int v2_4), (0, .ref h0), (1, .int p1)]) hx hb dX9_owned_24 hl (k := 0) rfl h17.symm (by decide) rfl (fun ls hl => ?_)
          have hc9 := cnt_at (g 109) p1.toInt (i := v3_4) (i' := x16) (by omega) (by omega)
          refine lv_goto (tgt := 4) hx hb dX9_owned_27 (by decide) ?_
          exact ih_4 x16 v2_4 _ _ ls (by omega) (by omega) (by omega) hG hS (lv_sub hl [0, 1, 2, 3] rfl)
        · skip
          have hcl := cnt_le v3_4.toInt.toNat (g 109) p1.toInt
          obtain ⟨x19, h20⟩ : ∃ y : Int32, y = v2_4 + Int32.ofInt (1) := ⟨_, rfl⟩
          try have h21 : x19.toInt = v2_4.toInt + (1) := ty_inc h20 (by decide) (by omega) (by omega)
          refine lv_iinc (v := x19) (lv' := [(2, .int x19), (3, .int v3_4), (0, .ref h0), (1, .int p1)]) hx hb dX9_owned_21 hl (k := 1) rfl h20.symm (by decide) rfl (fun ls hl => ?_)
          obtain ⟨x22, h23⟩ : ∃ y : Int32, y = v3_4 + Int32.ofInt (1) := ⟨_, rfl⟩
          try have h24 : x22.toInt = v3_4.toInt + (1) := ty_inc h23 (by decide) (by omega) (by omega)
          refine lv_iinc (v := x22) (lv' := [(3, .int x22), (2, .int x19), (0, .ref h0), (1, .int p1)]) hx hb dX9_owned_24 hl (k := 1) rfl h23.symm (by decide) rfl (fun ls hl => ?_)
          have hc9 := cnt_at (g 109) p1.toInt (i := v3_4) (i' := x22) (by omega) (by omega)
          refine lv_goto (tgt := 4) hx hb dX9_owned_27 (by decide) ?_
          exact ih_4 x22 x19 _ _ ls (by omega) (by omega) (by omega) hG hS (lv_sub hl [0, 1, 2, 3] rfl)
  have hc0 : cnt x3.toInt.toNat (g 109) p1.toInt = 0 := by rw [show x3.toInt.toNat = 0 by omega]; rfl
  exact L_4 ((318 - x3.toInt) + 1).toNat x3 x1 _ _ ls (by omega) (by omega) (by omega) hG hS (lv_sub hl [0, 1, 2, 3] rfl)
