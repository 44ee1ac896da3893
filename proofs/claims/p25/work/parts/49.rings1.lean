set_option maxHeartbeats 4000000 in
set_option maxRecDepth 100000 in
/-- WeekBankModel.isShort:  -/
theorem k_X9_isShort (l : Launch) (dC : Nat → ClassId) (dI : Nat → Nat → Nat) (dA : Nat → ClassId) (sz : Nat) (X : va_W) (Γ : ty_G) (hU : Un Γ) (g : gh) (h0 : Nat) (t_h0 : ty Γ h0 30) (p1 : Int32) (hW : 0 ≤ p1.toInt ∧ p1.toInt < g 137 0 ∧ g 137 0 ≤ 9) (hC : CH g (g 137 0).toNat (p1.toInt.toNat + 1)) : Met l yX9_isShort (.code yX9_isShort cX9_isShort 4 (Option.some Jvm.ClassFile.FieldType.boolean) :: AL) ({ frames := 0, cells := 0, slots := 0, locals := 0 }) (PCx dC dI dA sz X Γ g [.ref h0, .int p1]) (va_Qi (fun (r : Int32) (u : gh) => u = g ∧ ((r.toInt = 0 ∨ r.toInt = 1)) ∧ (∃ n : Nat, rg_E ( g 138) (g 137 0).toNat p1.toInt.toNat n ∧ (r.toInt = 1 ↔ (n : Int) ≤ g 143 (0)))) (okb dC dI dA sz X Γ) (ty_A sz)) 0 0 (ty_A sz) := by
  refine Met.ofW (cc := cX9_isShort) (maxL := 4) (ret := (Option.some Jvm.ClassFile.FieldType.boolean)) (by decide) rfl ?_
  intro p e s m args below meth c s₁ B hml hv
  obtain ⟨rfl, hG, hE⟩ := hv
  have hx := B.exec
  have hb := B.bytes
  have hr := B.returns
  have hts := atoms_spec B.pre
  have hA : ∀ w ∈ AL, w.before _ s = true := fun w h => hts w (List.mem_cons_of_mem _ h)
  have hown : s.vm.findClass RX9 = some m.cls := findClass_of_methodNamed B.named
  have hlocks := B.notSynchronized
  have hS : va_S (ty_A sz) s.heap s.heap [] := va_S.rf
  have hl := lv_entry ([.ref h0, .int p1]) (n := 4) (Nat.le_of_ble_eq_true rfl)
  rw [lg_entry_eq]
  generalize (lg_sl ([.ref h0, .int p1]) ++ List.replicate (4 - (lg_sl ([.ref h0, .int p1])).length) Slot.unset).toArray = ls at hl ⊢
  have hl : lv_has ls 4 [(0, .ref h0), (1, .int p1)] := hl
  refine ty_iconst hx hb (1) dX9_isShort_0 (by decide) (fun x1 h2 => ?_)
  refine lv_istore_n (lv' := [(2, .int x1), (0, .ref h0), (1, .int p1)]) hx hb dX9_isShort_1 rfl hl (by decide) rfl (fun ls hl => ?_)
  refine lv_aload_n hx hb dX9_isShort_2 rfl (lv_at hl 1 rfl) ?_
  refine get_X9_38 hx hb hA hown hE hG t_h0 wd_4_168 dX9_isShort_3 (fun b3 (t_b3 : ty Γ b3 138) => ?_)
  refine lv_iload_n hx hb dX9_isShort_6 rfl (lv_at hl 2 rfl) ?_
  refine ald_mI hx hb hE hG 38 rfl (n := 9) rfl (lo := -2) (hi := 8) rfl rfl t_b3 (by omega) dX9_isShort_7 (fun j5 x4 h6 h7 h8 => ?_)
  obtain rfl : j5 = p1.toInt.toNat := by omega
  replace h7 : x4.toInt = g 138 p1.toInt.toNat := h7
  refine lv_istore_n (lv' := [(3, .int x4), (2, .int x1), (0, .ref h0), (1, .int p1)]) hx hb dX9_isShort_8 rfl hl (by decide) rfl (fun ls hl => ?_)
  have L_9 : ∀ (n : Nat) (v3_9 : Int32) (v2_9 : Int32) (H : Heap) (locs : List Loc) (ls : Array Slot), (11 - v2_9.toInt : Int) < n → 1 ≤ v2_9.toInt ∧ v2_9.toInt ≤ 10 ∧ v3_9.toInt < g 137 0 → (VS (g 138) (g 137 0).toNat p1.toInt v3_9.toInt v2_9.toInt) → (rg_W (g 138) (g 137 0).toNat p1.toInt.toNat v2_9.toInt.toNat ∧ v3_9.toInt = g 138 (rg_it (g 138) (v2_9.toInt.toNat - 1) p1.toInt.toNat)) → ty_ok (dC, dI) vwCl Γ (TP dA Γ g) sz X H → va_S (ty_A sz) s.heap H locs → lv_has ls 4 [(3, .int v3_9), (2, .int v2_9), (0, .ref h0), (1, .int p1)] → W p l e (headSpec (.code yX9_isShort cX9_isShort 4 (Option.some Jvm.ClassFile.FieldType.boolean) :: AL) ({ frames := 0, cells := 0, slots := 0, locals := 0 })).room s m ([.ref h0, .int p1] : List Value).toArray below meth c H locs 0 0 (MQ below (va_Qi (fun (r : Int32) (u : gh) => u = g ∧ ((r.toInt = 0 ∨ r.toInt = 1)) ∧ (∃ n : Nat, rg_E ( g 138) (g 137 0).toNat p1.toInt.toNat n ∧ (r.toInt = 1 ↔ (n : Int) ≤ g 143 (0)))) (okb dC dI dA sz X Γ) (ty_A sz)) ([.ref h0, .int p1] : List Value).toArray s 0 0 (ty_A sz)) (F0 m 9 ls []) := by
    intro n
    induction n with
    | zero => intro v3_9 v2_9 H locs ls hm hi0 hq0 hq1 hG hS hl; exfalso; omega
    | succ n ih_9 =>
      intro v3_9 v2_9 H locs ls hm hi0 hq0 hq1 hG hS hl
      refine lv_iload_n hx hb dX9_isShort_9 rfl (lv_at hl 0 rfl) ?_
      refine lv_iload_n hx hb dX9_isShort_10 rfl (lv_at hl 3 rfl) ?_
      refine ty_icmp_eq (tgt := 31) hx hb dX9_isShort_11 (by decide) (fun c10 => ?_) (fun c10 => ?_)
      · skip
        refine lv_iload_n hx hb dX9_isShort_31 rfl (lv_at hl 1 rfl) ?_
        refine lv_aload_n hx hb dX9_isShort_32 rfl (lv_at hl 2 rfl) ?_
        refine get_X9_43 hx hb hA hown hE hG t_h0 wd_4_173 dX9_isShort_33 (fun x11 h12 => ?_)
        refine ty_icmp_gt (tgt := 43) hx hb dX9_isShort_36 (by decide) (fun c14 => ?_) (fun c14 => ?_)
        · skip
          refine ty_iconst hx hb (0) dX9_isShort_43 (by decide) (fun x15 h16 => ?_)
          exact W.zret (v := x15) hx hb hr (ty_nb (by omega)).1 (fun t ht hW => ⟨⟨x15, g, rfl, ⟨rfl, (by omega), (⟨v2_9.toInt.toNat, ⟨hq1.1, by rw [← hq1.2]; omega⟩, by omega⟩)⟩, ok1 ht hG⟩, hS.F ht⟩) hS.2.2 dX9_isShort_44
        · skip
          refine ty_iconst hx hb (1) dX9_isShort_39 (by decide) (fun x17 h18 => ?_)
          refine lv_goto (tgt := 44) hx hb dX9_isShort_40 (by decide) ?_
          exact W.zret (v := x17) hx hb hr (ty_nb (by omega)).1 (fun t ht hW => ⟨⟨x17, g, rfl, ⟨rfl, (by omega), (⟨v2_9.toInt.toNat, ⟨hq1.1, by rw [← hq1.2]; omega⟩, by omega⟩)⟩, ok1 ht hG⟩, hS.F ht⟩) hS.2.2 dX9_isShort_44
      · skip
        refine lv_iload_n hx hb dX9_isShort_14 rfl (lv_at hl 0 rfl) ?_
        refine ty_if_lt (tgt := 31) hx hb dX9_isShort_15 (by decide) (fun c19 => ?_) (fun c19 => ?_)
        · skip
          refine lv_iload_n hx hb dX9_isShort_31 rfl (lv_at hl 1 rfl) ?_
          refine lv_aload_n hx hb dX9_isShort_32 rfl (lv_at hl 2 rfl) ?_
          refine get_X9_43 hx hb hA hown hE hG t_h0 wd_4_173 dX9_isShort_33 (fun x20 h21 => ?_)
          refine ty_icmp_gt (tgt := 43) hx hb dX9_isShort_36 (by decide) (fun c23 => ?_) (fun c23 => ?_)
          · skip
            refine ty_iconst hx hb (0) dX9_isShort_43 (by decide) (fun x24 h25 => ?_)
            exact W.zret (v := x24) hx hb hr (ty_nb (by omega)).1 (fun t ht hW => ⟨⟨x24, g, rfl, ⟨rfl, (by omega), (⟨v2_9.toInt.toNat, ⟨hq1.1, by rw [← hq1.2]; omega⟩, by omega⟩)⟩, ok1 ht hG⟩, hS.F ht⟩) hS.2.2 dX9_isShort_44
          · skip
            refine ty_iconst hx hb (1) dX9_isShort_39 (by decide) (fun x26 h27 => ?_)
            refine lv_goto (tgt := 44) hx hb dX9_isShort_40 (by decide) ?_
            exact W.zret (v := x26) hx hb hr (ty_nb (by omega)).1 (fun t ht hW => ⟨⟨x26, g, rfl, ⟨rfl, (by omega), (⟨v2_9.toInt.toNat, ⟨hq1.1, by rw [← hq1.2]; omega⟩, by omega⟩)⟩, ok1 ht hG⟩, hS.F ht⟩) hS.2.2 dX9_isShort_44
        · skip
          have hl9 := VS_le hq0
          obtain ⟨x28, h29⟩ : ∃ y : Int32, y = v2_9 + Int32.ofInt (1) := ⟨_, rfl⟩
          try have h30 : x28.toInt = v2_9.toInt + (1) := ty_inc h29 (by decide) (by omega) (by omega)
          refine lv_iinc (v := x28) (lv' := [(2, .int x28), (3, .int v3_9), (0, .ref h0), (1, .int p1)]) hx hb dX9_isShort_18 hl (k := 1) rfl h29.symm (by decide) rfl (fun ls hl => ?_)
          refine lv_aload_n hx hb dX9_isShort_21 rfl (lv_at hl 2 rfl) ?_
          refine get_X9_38 hx hb hA hown hE hG t_h0 wd_4_168 dX9_isShort_22 (fun b31 (t_b31 : ty Γ b31 138) => ?_)
          refine lv_iload_n hx hb dX9_isShort_25 rfl (lv_at hl 1 rfl) ?_
          refine ald_mI hx hb hE hG 38 rfl (n := 9) rfl (lo := -2) (hi := 8) rfl rfl t_b31 (by omega) dX9_isShort_26 (fun j33 x32 h34 h35 h36 => ?_)
          obtain rfl : j33 = v3_9.toInt.toNat := by omega
          replace h35 : x32.toInt = g 138 v3_9.toInt.toNat := h35
          refine lv_istore_n (lv' := [(3, .int x32), (2, .int x28), (0, .ref h0), (1, .int p1)]) hx hb dX9_isShort_27 rfl hl (by decide) rfl (fun ls hl => ?_)
          have hV9 := VS_step hq0 (by omega) (CH_inj hC) (by omega) (by have := CH_lt hC v3_9.toInt.toNat; omega) (by omega) (b := x32.toInt) (by omega) (n2 := x28.toInt) (by omega)
          have hL9 := VS_le hV9
          have hlt8 := CH_lt hC v3_9.toInt.toNat (by omega)
          refine lv_goto (tgt := 9) hx hb dX9_isShort_28 (by decide) ?_
          exact ih_9 x32 x28 _ _ ls (by omega) (by omega) (hV9) (by have h9 := rg_W_s hq1.1 hq1.2 (by omega) (by omega) (by omega) (b := x32.toInt) (by omega); rw [show x28.toInt.toNat = v2_9.toInt.toNat + 1 by omega]; exact h9) hG hS (lv_sub hl [0, 1, 2, 3] rfl)
  have hlt9 := CH_lt hC p1.toInt.toNat (by omega)
  exact L_9 ((11 - x1.toInt) + 1).toNat x4 x1 _ _ ls (by omega) (by omega) (VS_0 (by omega) (by omega) (by omega) (by omega)) (by rw [show x1.toInt.toNat = 1 by omega]; exact ⟨rg_W_1 (by omega), by show x4.toInt = g 138 p1.toInt.toNat; omega⟩) hG hS (lv_sub hl [0, 1, 2, 3] rfl)

set_option maxHeartbeats 4000000 in
set_option maxRecDepth 100000 in
/-- WeekBankModel.isEven:  -/
theorem k_X9_isEven (l : Launch) (dC : Nat → ClassId) (dI : Nat → Nat → Nat) (dA : Nat → ClassId) (sz : Nat) (X : va_W) (Γ : ty_G) (hU : Un Γ) (g : gh) (h0 : Nat) (t_h0 : ty Γ h0 30) (p1 : Int32) (hW : 0 ≤ p1.toInt ∧ p1.toInt < g 137 0 ∧ g 137 0 ≤ 9) (hC : CH g (g 137 0).toNat (p1.toInt.toNat + 1)) (hL : 2 ≤ g 143 (0) ∧ g 143 (0) ≤ 9) : Met l yX9_isEven (.code yX9_isEven cX9_isEven 7 (Option.some Jvm.ClassFile.FieldType.boolean) :: AL) ({ frames := 0, cells := 0, slots := 0, locals := 0 }) (PCx dC dI dA sz X Γ g [.ref h0, .int p1]) (va_Qi (fun (r : Int32) (u : gh) => u = g ∧ ((r.toInt = 0 ∨ r.toInt = 1)) ∧ (Unit → r.toInt ≠ 1 → ∃ i m : Nat, i < (g 137 0).toNat ∧ (∀ j, j < (g 137 0).toNat → g 138 j ≠ (i : Int)) ∧ (∀ s, s + 1 < m → rg_it ( g 138) s i < (g 137 0).toNat ∧ 0 ≤ g 138 (rg_it ( g 138) s i)) ∧ (g 143 (0)).toNat < m ∧ 2 ≤ m)) (okb dC dI dA sz X Γ) (ty_A sz)) 0 0 (ty_A sz) := by
  refine Met.ofW (cc := cX9_isEven) (maxL := 7) (ret := (Option.some Jvm.ClassFile.FieldType.boolean)) (by decide) rfl ?_
  intro p e s m args below meth c s₁ B hml hv
  obtain ⟨rfl, hG, hE⟩ := hv
  have hx := B.exec
  have hb := B.bytes
  have hr := B.returns
  have hts := atoms_spec B.pre
  have hA : ∀ w ∈ AL, w.before _ s = true := fun w h => hts w (List.mem_cons_of_mem _ h)
  have hown : s.vm.findClass RX9 = some m.cls := findClass_of_methodNamed B.named
  have hlocks := B.notSynchronized
  have hS : va_S (ty_A sz) s.heap s.heap [] := va_S.rf
  have hl := lv_entry ([.ref h0, .int p1]) (n := 7) (Nat.le_of_ble_eq_true rfl)
  rw [lg_entry_eq]
  generalize (lg_sl ([.ref h0, .int p1]) ++ List.replicate (7 - (lg_sl ([.ref h0, .int p1])).length) Slot.unset).toArray = ls at hl ⊢
  have hl : lv_has ls 7 [(0, .ref h0), (1, .int p1)] := hl
  refine ty_iconst hx hb (0) dX9_isEven_0 (by decide) (fun x1 h2 => ?_)
  refine lv_istore_n (lv' := [(2, .int x1), (0, .ref h0), (1, .int p1)]) hx hb dX9_isEven_1 rfl hl (by decide) rfl (fun ls hl => ?_)
  refine lv_iload_n hx hb dX9_isEven_2 rfl (lv_at hl 2 rfl) ?_
  refine lv_istore_n (lv' := [(3, .int p1), (2, .int x1), (0, .ref h0), (1, .int p1)]) hx hb dX9_isEven_3 rfl hl (by decide) rfl (fun ls hl => ?_)
  refine ty_iconst hx hb (1) dX9_isEven_4 (by decide) (fun x3 h4 => ?_)
  refine lv_istore (lv' := [(4, .int x3), (3, .int p1), (2, .int x1), (0, .ref h0), (1, .int p1)]) hx hb dX9_isEven_5 hl (by decide) rfl (fun ls hl => ?_)
  have L_7 : ∀ (n : Nat) (v4_7 : Int32) (v3_7 : Int32) (v2_7 : Int32) (H : Heap) (locs : List Loc) (ls : Array Slot), (12 - v2_7.toInt + v4_7.toInt : Int) < n → (v4_7.toInt = 0 ∨ v4_7.toInt = 1) ∧ 0 ≤ v2_7.toInt ∧ v2_7.toInt ≤ 9 ∧ 0 ≤ v3_7.toInt ∧ v3_7.toInt < g 137 0 → (VB (g 138) (g 137 0).toNat p1.toInt v3_7.toInt v2_7.toInt) → (v4_7.toInt = 0 → ∀ j : Nat, j < (g 137 0).toNat → g 138 j ≠ v3_7.toInt) → ty_ok (dC, dI) vwCl Γ (TP dA Γ g) sz X H → va_S (ty_A sz) s.heap H locs → lv_has ls 7 [(4, .int v4_7), (3, .int v3_7), (2, .int v2_7), (0, .ref h0), (1, .int p1)] → W p l e (headSpec (.code yX9_isEven cX9_isEven 7 (Option.some Jvm.ClassFile.FieldType.boolean) :: AL) ({ frames := 0, cells := 0, slots := 0, locals := 0 })).room s m ([.ref h0, .int p1] : List Value).toArray below meth c H locs 0 0 (MQ below (va_Qi (fun (r : Int32) (u : gh) => u = g ∧ ((r.toInt = 0 ∨ r.toInt = 1)) ∧ (Unit → r.toInt ≠ 1 → ∃ i m : Nat, i < (g 137 0).toNat ∧ (∀ j, j < (g 137 0).toNat → g 138 j ≠ (i : Int)) ∧ (∀ s, s + 1 < m → rg_it ( g 138) s i < (g 137 0).toNat ∧ 0 ≤ g 138 (rg_it ( g 138) s i)) ∧ (g 143 (0)).toNat < m ∧ 2 ≤ m)) (okb dC dI dA sz X Γ) (ty_A sz)) ([.ref h0, .int p1] : List Value).toArray s 0 0 (ty_A sz)) (F0 m 7 ls []) := by
    intro n
    induction n with
    | zero => intro v4_7 v3_7 v2_7 H locs ls hm hi0 hq0 hq1 hG hS hl; exfalso; omega
    | succ n ih_7 =>
      intro v4_7 v3_7 v2_7 H locs ls hm hi0 hq0 hq1 hG hS hl
      refine lv_iload hx hb dX9_isEven_7 (lv_at hl 0 rfl) ?_
      refine ty_if_eq (tgt := 89) hx hb dX9_isEven_9 (by decide) (fun c6 => ?_) (fun c6 => ?_)
      · skip
        refine ty_iconst hx hb (0) dX9_isEven_89 (by decide) (fun x7 h8 => ?_)
        refine lv_istore (lv' := [(5, .int x7), (4, .int v4_7), (3, .int v3_7), (2, .int v2_7), (0, .ref h0), (1, .int p1)]) hx hb dX9_isEven_90 hl (by decide) rfl (fun ls hl => ?_)
        refine lv_iload_n hx hb dX9_isEven_92 rfl (lv_at hl 2 rfl) ?_
        refine lv_istore (lv' := [(6, .int v3_7), (5, .int x7), (4, .int v4_7), (3, .int v3_7), (2, .int v2_7), (0, .ref h0), (1, .int p1)]) hx hb dX9_isEven_93 hl (by decide) rfl (fun ls hl => ?_)
        have L_95 : ∀ (n : Nat) (v6_95 : Int32) (v5_95 : Int32) (H : Heap) (locs : List Loc) (ls : Array Slot), (11 - v5_95.toInt : Int) < n → 0 ≤ v5_95.toInt ∧ v5_95.toInt ≤ 10 ∧ -2 ≤ v6_95.toInt ∧ v6_95.toInt ≤ 8 ∧ v6_95.toInt < g 137 0 → (EW (g 138) (g 137 0).toNat v3_7.toInt.toNat v5_95.toInt.toNat v6_95.toInt) → ty_ok (dC, dI) vwCl Γ (TP dA Γ g) sz X H → va_S (ty_A sz) s.heap H locs → lv_has ls 7 [(6, .int v6_95), (5, .int v5_95), (4, .int v4_7), (3, .int v3_7), (2, .int v2_7), (0, .ref h0), (1, .int p1)] → W p l e (headSpec (.code yX9_isEven cX9_isEven 7 (Option.some Jvm.ClassFile.FieldType.boolean) :: AL) ({ frames := 0, cells := 0, slots := 0, locals := 0 })).room s m ([.ref h0, .int p1] : List Value).toArray below meth c H locs 0 0 (MQ below (va_Qi (fun (r : Int32) (u : gh) => u = g ∧ ((r.toInt = 0 ∨ r.toInt = 1)) ∧ (Unit → r.toInt ≠ 1 → ∃ i m : Nat, i < (g 137 0).toNat ∧ (∀ j, j < (g 137 0).toNat → g 138 j ≠ (i : Int)) ∧ (∀ s, s + 1 < m → rg_it ( g 138) s i < (g 137 0).toNat ∧ 0 ≤ g 138 (rg_it ( g 138) s i)) ∧ (g 143 (0)).toNat < m ∧ 2 ≤ m)) (okb dC dI dA sz X Γ) (ty_A sz)) ([.ref h0, .int p1] : List Value).toArray s 0 0 (ty_A sz)) (F0 m 95 ls []) := by
          intro n
          induction n with
          | zero => intro v6_95 v5_95 H locs ls hm hi0 hw0 hG hS hl; exfalso; omega
          | succ n ih_95 =>
            intro v6_95 v5_95 H locs ls hm hi0 hw0 hG hS hl
            refine lv_iload hx hb dX9_isEven_95 (lv_at hl 0 rfl) ?_
            refine ty_if_lt (tgt := 122) hx hb dX9_isEven_97 (by decide) (fun c10 => ?_) (fun c10 => ?_)
            · skip
              refine lv_iload hx hb dX9_isEven_122 (lv_at hl 1 rfl) ?_
              refine lv_aload_n hx hb dX9_isEven_124 rfl (lv_at hl 5 rfl) ?_
              refine get_X9_43 hx hb hA hown hE hG t_h0 wd_4_173 dX9_isEven_125 (fun x11 h12 => ?_)
              refine ty_icmp_gt (tgt := 135) hx hb dX9_isEven_128 (by decide) (fun c14 => ?_) (fun c14 => ?_)
              · skip
                refine ty_iconst hx hb (0) dX9_isEven_135 (by decide) (fun x15 h16 => ?_)
                exact W.zret (v := x15) hx hb hr (ty_nb (by omega)).1 (fun t ht hW => ⟨⟨x15, g, rfl, ⟨rfl, (by omega), (fun _ h => ⟨v3_7.toInt.toNat, v5_95.toInt.toNat, by omega, fun j hj e => hq1 (by omega) j hj (by omega), hw0.1, by omega, by omega⟩)⟩, ok1 ht hG⟩, hS.F ht⟩) hS.2.2 dX9_isEven_136
              · skip
                refine ty_iconst hx hb (1) dX9_isEven_131 (by decide) (fun x17 h18 => ?_)
                refine lv_goto (tgt := 136) hx hb dX9_isEven_132 (by decide) ?_
                exact W.zret (v := x17) hx hb hr (ty_nb (by omega)).1 (fun t ht hW => ⟨⟨x17, g, rfl, ⟨rfl, (by omega), (fun _ h => ⟨v3_7.toInt.toNat, v5_95.toInt.toNat, by omega, fun j hj e => hq1 (by omega) j hj (by omega), hw0.1, by omega, by omega⟩)⟩, ok1 ht hG⟩, hS.F ht⟩) hS.2.2 dX9_isEven_136
            · skip
              refine lv_iload hx hb dX9_isEven_100 (lv_at hl 1 rfl) ?_
              refine ty_bipush hx hb (9) dX9_isEven_102 (by decide) (fun x19 h20 => ?_)
              refine ty_icmp_gt (tgt := 122) hx hb dX9_isEven_104 (by decide) (fun c21 => ?_) (fun c21 => ?_)
              · skip
                refine lv_iload hx hb dX9_isEven_122 (lv_at hl 1 rfl) ?_
                refine lv_aload_n hx hb dX9_isEven_124 rfl (lv_at hl 5 rfl) ?_
                refine get_X9_43 hx hb hA hown hE hG t_h0 wd_4_173 dX9_isEven_125 (fun x22 h23 => ?_)
                refine ty_icmp_gt (tgt := 135) hx hb dX9_isEven_128 (by decide) (fun c25 => ?_) (fun c25 => ?_)
                · skip
                  refine ty_iconst hx hb (0) dX9_isEven_135 (by decide) (fun x26 h27 => ?_)
                  exact W.zret (v := x26) hx hb hr (ty_nb (by omega)).1 (fun t ht hW => ⟨⟨x26, g, rfl, ⟨rfl, (by omega), (fun _ h => ⟨v3_7.toInt.toNat, v5_95.toInt.toNat, by omega, fun j hj e => hq1 (by omega) j hj (by omega), hw0.1, by omega, by omega⟩)⟩, ok1 ht hG⟩, hS.F ht⟩) hS.2.2 dX9_isEven_136
                · skip
                  refine ty_iconst hx hb (1) dX9_isEven_131 (by decide) (fun x28 h29 => ?_)
                  refine lv_goto (tgt := 136) hx hb dX9_isEven_132 (by decide) ?_
                  exact W.zret (v := x28) hx hb hr (ty_nb (by omega)).1 (fun t ht hW => ⟨⟨x28, g, rfl, ⟨rfl, (by omega), (fun _ h => ⟨v3_7.toInt.toNat, v5_95.toInt.toNat, by omega, fun j hj e => hq1 (by omega) j hj (by omega), hw0.1, by omega, by omega⟩)⟩, ok1 ht hG⟩, hS.F ht⟩) hS.2.2 dX9_isEven_136
              · skip
                obtain ⟨x30, h31⟩ : ∃ y : Int32, y = v5_95 + Int32.ofInt (1) := ⟨_, rfl⟩
                try have h32 : x30.toInt = v5_95.toInt + (1) := ty_inc h31 (by decide) (by omega) (by omega)
                refine lv_iinc (v := x30) (lv' := [(5, .int x30), (6, .int v6_95), (4, .int v4_7), (3, .int v3_7), (2, .int v2_7), (0, .ref h0), (1, .int p1)]) hx hb dX9_isEven_107 hl (k := 1) rfl h31.symm (by decide) rfl (fun ls hl => ?_)
                refine lv_aload_n hx hb dX9_isEven_110 rfl (lv_at hl 5 rfl) ?_
                refine get_X9_38 hx hb hA hown hE hG t_h0 wd_4_168 dX9_isEven_111 (fun b33 (t_b33 : ty Γ b33 138) => ?_)
                refine lv_iload hx hb dX9_isEven_114 (lv_at hl 1 rfl) ?_
                refine ald_mI hx hb hE hG 38 rfl (n := 9) rfl (lo := -2) (hi := 8) rfl rfl t_b33 (by omega) dX9_isEven_116 (fun j35 x34 h36 h37 h38 => ?_)
                obtain rfl : j35 = v6_95.toInt.toNat := by omega
                replace h37 : x34.toInt = g 138 v6_95.toInt.toNat := h37
                refine lv_istore (lv' := [(6, .int x34), (5, .int x30), (4, .int v4_7), (3, .int v3_7), (2, .int v2_7), (0, .ref h0), (1, .int p1)]) hx hb dX9_isEven_117 hl (by decide) rfl (fun ls hl => ?_)
                have hlt8 := CH_lt hC v6_95.toInt.toNat (by omega)
                refine lv_goto (tgt := 95) hx hb dX9_isEven_119 (by decide) ?_
                exact ih_95 x34 x30 _ _ ls (by omega) (by omega) (EW_s hw0 (by omega) (by omega) (by have := CH_lt hC v6_95.toInt.toNat; omega) (by omega)) hG hS (lv_sub hl [0, 1, 2, 3, 4, 5, 6] rfl)
        exact L_95 ((11 - x7.toInt) + 1).toNat v3_7 x7 _ _ ls (by omega) (by omega) (EW_0 (by omega) (by omega)) hG hS (lv_sub hl [0, 1, 2, 3, 4, 5, 6] rfl)
      · skip
        refine ty_iconst hx hb (-1) dX9_isEven_12 (by decide) (fun x39 h40 => ?_)
        refine lv_istore (lv' := [(5, .int x39), (4, .int v4_7), (3, .int v3_7), (2, .int v2_7), (0, .ref h0), (1, .int p1)]) hx hb dX9_isEven_13 hl (by decide) rfl (fun ls hl => ?_)
        refine ty_iconst hx hb (0) dX9_isEven_15 (by decide) (fun x41 h42 => ?_)
        refine lv_istore (lv' := [(6, .int x41), (5, .int x39), (4, .int v4_7), (3, .int v3_7), (2, .int v2_7), (0, .ref h0), (1, .int p1)]) hx hb dX9_isEven_16 hl (by decide) rfl (fun ls hl => ?_)
        have L_18 : ∀ (n : Nat) (v6_18 : Int32) (v5_18 : Int32) (H : Heap) (locs : List Loc) (ls : Array Slot), (g 137 0 - v6_18.toInt : Int) < n → 0 ≤ v6_18.toInt ∧ v6_18.toInt ≤ g 137 0 → v5_18.toInt = -1 ∨ (0 ≤ v5_18.toInt ∧ v5_18.toInt < g 137 0 ∧ g 138 v5_18.toInt.toNat = v3_7.toInt) → (∀ j : Nat, (j : Int) < v6_18.toInt → v5_18.toInt = -1 → g 138 j ≠ v3_7.toInt) → ty_ok (dC, dI) vwCl Γ (TP dA Γ g) sz X H → va_S (ty_A sz) s.heap H locs → lv_has ls 7 [(6, .int v6_18), (5, .int v5_18), (4, .int v4_7), (3, .int v3_7), (2, .int v2_7), (0, .ref h0), (1, .int p1)] → W p l e (headSpec (.code yX9_isEven cX9_isEven 7 (Option.some Jvm.ClassFile.FieldType.boolean) :: AL) ({ frames := 0, cells := 0, slots := 0, locals := 0 })).room s m ([.ref h0, .int p1] : List Value).toArray below meth c H locs 0 0 (MQ below (va_Qi (fun (r : Int32) (u : gh) => u = g ∧ ((r.toInt = 0 ∨ r.toInt = 1)) ∧ (Unit → r.toInt ≠ 1 → ∃ i m : Nat, i < (g 137 0).toNat ∧ (∀ j, j < (g 137 0).toNat → g 138 j ≠ (i : Int)) ∧ (∀ s, s + 1 < m → rg_it ( g 138) s i < (g 137 0).toNat ∧ 0 ≤ g 138 (rg_it ( g 138) s i)) ∧ (g 143 (0)).toNat < m ∧ 2 ≤ m)) (okb dC dI dA sz X Γ) (ty_A sz)) ([.ref h0, .int p1] : List Value).toArray s 0 0 (ty_A sz)) (F0 m 18 ls []) := by
          intro n
          induction n with
          | zero => intro v6_18 v5_18 H locs ls hm hi0 hi1 hz0 hG hS hl; exfalso; omega
          | succ n ih_18 =>
            intro v6_18 v5_18 H locs ls hm hi0 hi1 hz0 hG hS hl
            refine lv_iload hx hb dX9_isEven_18 (lv_at hl 0 rfl) ?_
            refine lv_aload_n hx hb dX9_isEven_20 rfl (lv_at hl 5 rfl) ?_
            refine get_X9_37 hx hb hA hown hE hG t_h0 wd_4_167 dX9_isEven_21 (fun x44 h45 => ?_)
            refine ty_icmp_ge (tgt := 48) hx hb dX9_isEven_24 (by decide) (fun c47 => ?_) (fun c47 => ?_)
            · skip
              refine lv_iload hx hb dX9_isEven_48 (lv_at hl 1 rfl) ?_
              refine ty_iconst hx hb (-1) dX9_isEven_50 (by decide) (fun x48 h49 => ?_)
              refine ty_icmp_eq (tgt := 64) hx hb dX9_isEven_51 (by decide) (fun c50 => ?_) (fun c50 => ?_)
              · skip
                refine ty_iconst hx hb (0) dX9_isEven_64 (by decide) (fun x51 h52 => ?_)
                refine lv_istore (lv' := [(4, .int x51), (6, .int v6_18), (5, .int v5_18), (3, .int v3_7), (2, .int v2_7), (0, .ref h0), (1, .int p1)]) hx hb dX9_isEven_65 hl (by decide) rfl (fun ls hl => ?_)
                refine lv_iload hx hb dX9_isEven_67 (lv_at hl 0 rfl) ?_
                refine ty_if_eq (tgt := 78) hx hb dX9_isEven_69 (by decide) (fun c53 => ?_) (fun c53 => ?_)
                · skip
                  refine lv_iload hx hb dX9_isEven_78 (lv_at hl 2 rfl) ?_
                  refine lv_iload_n hx hb dX9_isEven_80 rfl (lv_at hl 6 rfl) ?_
                  refine ty_icmp_ne (tgt := 86) hx hb dX9_isEven_81 (by decide) (fun c54 => ?_) (fun c54 => ?_)
                  · skip
                    refine lv_goto (tgt := 7) hx hb dX9_isEven_86 (by decide) ?_
                    exact ih_7 x51 v3_7 v2_7 _ _ ls (by omega) (by omega) (by first | exact hV9 | exact hq0) (fun h j hj => by first | (exact absurd h (by omega)) | (exact hz0 j (by omega) (by omega))) hG hS (lv_sub hl [0, 3, 4, 5, 6] rfl)
                  · skip
                    refine ty_iconst hx hb (1) dX9_isEven_84 (by decide) (fun x55 h56 => ?_)
                    exact W.zret (v := x55) hx hb hr (ty_nb (by omega)).1 (fun t ht hW => ⟨⟨x55, g, rfl, ⟨rfl, (by omega), (fun _ h => absurd h (by omega))⟩, ok1 ht hG⟩, hS.F ht⟩) hS.2.2 dX9_isEven_85
                · exfalso; omega
              · skip
                refine lv_iload hx hb dX9_isEven_54 (lv_at hl 1 rfl) ?_
                refine lv_iload_n hx hb dX9_isEven_56 rfl (lv_at hl 6 rfl) ?_
                refine ty_icmp_eq (tgt := 64) hx hb dX9_isEven_57 (by decide) (fun c57 => ?_) (fun c57 => ?_)
                · skip
                  refine ty_iconst hx hb (0) dX9_isEven_64 (by decide) (fun x58 h59 => ?_)
                  refine lv_istore (lv' := [(4, .int x58), (6, .int v6_18), (5, .int v5_18), (3, .int v3_7), (2, .int v2_7), (0, .ref h0), (1, .int p1)]) hx hb dX9_isEven_65 hl (by decide) rfl (fun ls hl => ?_)
                  refine lv_iload hx hb dX9_isEven_67 (lv_at hl 0 rfl) ?_
                  refine ty_if_eq (tgt := 78) hx hb dX9_isEven_69 (by decide) (fun c60 => ?_) (fun c60 => ?_)
                  · skip
                    refine lv_iload hx hb dX9_isEven_78 (lv_at hl 2 rfl) ?_
                    refine lv_iload_n hx hb dX9_isEven_80 rfl (lv_at hl 6 rfl) ?_
                    refine ty_icmp_ne (tgt := 86) hx hb dX9_isEven_81 (by decide) (fun c61 => ?_) (fun c61 => ?_)
                    · skip
                      refine lv_goto (tgt := 7) hx hb dX9_isEven_86 (by decide) ?_
                      exact ih_7 x58 v3_7 v2_7 _ _ ls (by omega) (by omega) (by first | exact hV9 | exact hq0) (fun h j hj => by first | (exact absurd h (by omega)) | (exact hz0 j (by omega) (by omega))) hG hS (lv_sub hl [0, 3, 4, 5, 6] rfl)
                    · skip
                      refine ty_iconst hx hb (1) dX9_isEven_84 (by decide) (fun x62 h63 => ?_)
                      exact W.zret (v := x62) hx hb hr (ty_nb (by omega)).1 (fun t ht hW => ⟨⟨x62, g, rfl, ⟨rfl, (by omega), (fun _ h => absurd h (by omega))⟩, ok1 ht hG⟩, hS.F ht⟩) hS.2.2 dX9_isEven_85
                  · exfalso; omega
                · skip
                  refine ty_iconst hx hb (1) dX9_isEven_60 (by decide) (fun x64 h65 => ?_)
                  refine lv_goto (tgt := 65) hx hb dX9_isEven_61 (by decide) ?_
                  refine lv_istore (lv' := [(4, .int x64), (6, .int v6_18), (5, .int v5_18), (3, .int v3_7), (2, .int v2_7), (0, .ref h0), (1, .int p1)]) hx hb dX9_isEven_65 hl (by decide) rfl (fun ls hl => ?_)
                  refine lv_iload hx hb dX9_isEven_67 (lv_at hl 0 rfl) ?_
                  refine ty_if_eq (tgt := 78) hx hb dX9_isEven_69 (by decide) (fun c66 => ?_) (fun c66 => ?_)
                  · exfalso; omega
                  · skip
                    refine lv_iload hx hb dX9_isEven_72 (lv_at hl 2 rfl) ?_
                    refine lv_istore_n (lv' := [(3, .int v5_18), (4, .int x64), (6, .int v6_18), (5, .int v5_18), (2, .int v2_7), (0, .ref h0), (1, .int p1)]) hx hb dX9_isEven_74 rfl hl (by decide) rfl (fun ls hl => ?_)
                    obtain ⟨x67, h68⟩ : ∃ y : Int32, y = v2_7 + Int32.ofInt (1) := ⟨_, rfl⟩
                    try have h69 : x67.toInt = v2_7.toInt + (1) := ty_inc h68 (by decide) (by omega) (by omega)
                    refine lv_iinc (v := x67) (lv' := [(2, .int x67), (3, .int v5_18), (4, .int x64), (6, .int v6_18), (5, .int v5_18), (0, .ref h0), (1, .int p1)]) hx hb dX9_isEven_75 hl (k := 4) rfl h68.symm (by decide) rfl (fun ls hl => ?_)
                    have hV9 := VB_step hq0 (by omega) (by omega) (by omega) (b := v5_18.toInt) (by omega) (by omega) (by omega) (n2 := x67.toInt) (by omega)
                    have hL9 := VB_le hV9
                    refine lv_iload hx hb dX9_isEven_78 (lv_at hl 4 rfl) ?_
                    refine lv_iload_n hx hb dX9_isEven_80 rfl (lv_at hl 6 rfl) ?_
                    refine ty_icmp_ne (tgt := 86) hx hb dX9_isEven_81 (by decide) (fun c70 => ?_) (fun c70 => ?_)
                    · skip
                      refine lv_goto (tgt := 7) hx hb dX9_isEven_86 (by decide) ?_
                      exact ih_7 x64 v5_18 x67 _ _ ls (by omega) (by omega) (by first | exact hV9 | exact hq0) (fun h j hj => by first | (exact absurd h (by omega)) | (exact hz0 j (by omega) (by omega))) hG hS (lv_sub hl [2, 1, 0, 5, 6] rfl)
                    · skip
                      refine ty_iconst hx hb (1) dX9_isEven_84 (by decide) (fun x71 h72 => ?_)
                      exact W.zret (v := x71) hx hb hr (ty_nb (by omega)).1 (fun t ht hW => ⟨⟨x71, g, rfl, ⟨rfl, (by omega), (fun _ h => absurd h (by omega))⟩, ok1 ht hG⟩, hS.F ht⟩) hS.2.2 dX9_isEven_85
            · skip
              refine lv_aload_n hx hb dX9_isEven_27 rfl (lv_at hl 5 rfl) ?_
              refine get_X9_38 hx hb hA hown hE hG t_h0 wd_4_168 dX9_isEven_28 (fun b73 (t_b73 : ty Γ b73 138) => ?_)
              refine lv_iload hx hb dX9_isEven_31 (lv_at hl 0 rfl) ?_
              refine ald_mI hx hb hE hG 38 rfl (n := 9) rfl (lo := -2) (hi := 8) rfl rfl t_b73 (by omega) dX9_isEven_33 (fun j75 x74 h76 h77 h78 => ?_)
              obtain rfl : j75 = v6_18.toInt.toNat := by omega
              replace h77 : x74.toInt = g 138 v6_18.toInt.toNat := h77
              refine lv_iload_n hx hb dX9_isEven_34 rfl (lv_at hl 3 rfl) ?_
              refine ty_icmp_ne (tgt := 42) hx hb dX9_isEven_35 (by decide) (fun c79 => ?_) (fun c79 => ?_)
              · skip
                obtain ⟨x80, h81⟩ : ∃ y : Int32, y = v6_18 + Int32.ofInt (1) := ⟨_, rfl⟩
                try have h82 : x80.toInt = v6_18.toInt + (1) := ty_inc h81 (by decide) (by omega) (by omega)
                refine lv_iinc (v := x80) (lv' := [(6, .int x80), (5, .int v5_18), (4, .int v4_7), (3, .int v3_7), (2, .int v2_7), (0, .ref h0), (1, .int p1)]) hx hb dX9_isEven_42 hl (k := 0) rfl h81.symm (by decide) rfl (fun ls hl => ?_)
                refine lv_goto (tgt := 18) hx hb dX9_isEven_45 (by decide) ?_
                exact ih_18 x80 v5_18 _ _ ls (by omega) (by omega) (by omega) (fun j hj h5 => by by_cases e9 : j = v6_18.toInt.toNat; (rw [e9]; omega); exact hz0 j (by omega) (by omega)) hG hS (lv_sub hl [0, 1, 2, 3, 4, 5, 6] rfl)
              · skip
                refine lv_iload hx hb dX9_isEven_38 (lv_at hl 0 rfl) ?_
                refine lv_istore (lv' := [(5, .int v6_18), (6, .int v6_18), (4, .int v4_7), (3, .int v3_7), (2, .int v2_7), (0, .ref h0), (1, .int p1)]) hx hb dX9_isEven_40 hl (by decide) rfl (fun ls hl => ?_)
                obtain ⟨x83, h84⟩ : ∃ y : Int32, y = v6_18 + Int32.ofInt (1) := ⟨_, rfl⟩
                try have h85 : x83.toInt = v6_18.toInt + (1) := ty_inc h84 (by decide) (by omega) (by omega)
                refine lv_iinc (v := x83) (lv' := [(6, .int x83), (5, .int v6_18), (4, .int v4_7), (3, .int v3_7), (2, .int v2_7), (0, .ref h0), (1, .int p1)]) hx hb dX9_isEven_42 hl (k := 1) rfl h84.symm (by decide) rfl (fun ls hl => ?_)
                refine lv_goto (tgt := 18) hx hb dX9_isEven_45 (by decide) ?_
                exact ih_18 x83 v6_18 _ _ ls (by omega) (by omega) (by omega) (fun j hj h5 => by by_cases e9 : j = v6_18.toInt.toNat; (rw [e9]; omega); exact hz0 j (by omega) (by omega)) hG hS (lv_sub hl [0, 1, 2, 3, 4, 5, 6] rfl)
        exact L_18 ((g 137 0 - x41.toInt) + 1).toNat x41 x39 _ _ ls (by omega) (by omega) (by omega) (fun j hj => absurd hj (by omega)) hG hS (lv_sub hl [0, 1, 2, 3, 4, 5, 6] rfl)
  exact L_7 ((12 - x1.toInt + x3.toInt) + 1).toNat x3 p1 x1 _ _ ls (by omega) (by omega) (VB_0 (by omega) (by omega) (by omega)) (fun h => absurd h (by omega)) hG hS (lv_sub hl [0, 1, 2, 3, 4] rfl)
