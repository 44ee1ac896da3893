set_option maxHeartbeats 4000000 in
set_option maxRecDepth 100000 in
/-- WeekBankModel.chooses:  -/
theorem k_X9_chooses0 (l : Launch) (dC : Nat → ClassId) (dI : Nat → Nat → Nat) (dA : Nat → ClassId) (sz : Nat) (X : va_W) (Γ : ty_G) (hU : Un Γ) (g : gh) (h0 : Nat) (t_h0 : ty Γ h0 30) (p1 : Int32) (p2 : Int32) (p3 : Int32) (p4 : Int32) (hk : 0 ≤ p1.toInt ∧ p1.toInt ≤ g 137 0 ∧ g 137 0 ≤ 9 ∧ 0 ≤ p2.toInt ∧ p2.toInt ≤ p1.toInt ∧ g 137 0 - p1.toInt ≤ 0) (hC : CH g (g 137 0).toNat p1.toInt.toNat) (hB : BG g (g 137 0).toNat) : Met l yX9_chooses (.code yX9_chooses cX9_chooses 8 (Option.none : Option Jvm.ClassFile.FieldType) :: AL) ({ frames := 0, cells := 0, slots := 0, locals := 0 }) (PCx dC dI dA sz X Γ g [.ref h0, .int p1, .int p2, .int p3, .int p4]) (va_Qv (fun (u : gh) => (∀ c j : Nat, c ≠ 138 → c ≠ 139 → c ≠ 140 → c ≠ 141 → c ≠ 142 → u c j = g c j) ∧ (∀ i : Nat, u 138 i = g 138 i) ∧ (∀ i : Nat, u 140 i = g 140 i) ∧ (BG u (g 137 0).toNat) ∧ ((0 ≤ g 141 0 ∨ ∀ j : Nat, j < (g 137 0).toNat → g 140 j ≠ 1) → 0 ≤ u 141 0)) (okb dC dI dA sz X Γ) (ty_A sz)) 0 0 (ty_A sz) := by
  refine Met.ofW (cc := cX9_chooses) (maxL := 8) (ret := (Option.none : Option Jvm.ClassFile.FieldType)) (by decide) rfl ?_
  intro p e s m args below meth c s₁ B hml hv
  obtain ⟨rfl, hG, hE⟩ := hv
  have hx := B.exec
  have hb := B.bytes
  have hr := B.returns
  have hts := atoms_spec B.pre
  have hA : ∀ w ∈ AL, w.before _ s = true := fun w h => hts w (List.mem_cons_of_mem _ h)
  have hown : s.vm.findClass RX9 = some m.cls := findClass_of_methodNamed B.named
  have hlocks := B.notSynchronized
  have hS : va_S (ty_A sz) s.heap s.heap [] := va_S.rf
  have hl := lv_entry ([.ref h0, .int p1, .int p2, .int p3, .int p4]) (n := 8) (Nat.le_of_ble_eq_true rfl)
  rw [lg_entry_eq]
  generalize (lg_sl ([.ref h0, .int p1, .int p2, .int p3, .int p4]) ++ List.replicate (8 - (lg_sl ([.ref h0, .int p1, .int p2, .int p3, .int p4])).length) Slot.unset).toArray = ls at hl ⊢
  have hl : lv_has ls 8 [(0, .ref h0), (1, .int p1), (2, .int p2), (3, .int p3), (4, .int p4)] := hl
  refine lv_iload_n hx hb dX9_chooses_0 rfl (lv_at hl 2 rfl) ?_
  refine lv_aload_n hx hb dX9_chooses_1 rfl (lv_at hl 0 rfl) ?_
  refine get_X9_37 hx hb hA hown hE hG t_h0 wd_4_167 dX9_chooses_2 (fun x1 h2 => ?_)
  refine ty_iadd hx hb dX9_chooses_5 (fun x4 h5 => ?_)
  try have h6 : x4.toInt = p2.toInt + x1.toInt := ty_add h5 (by omega) (by omega)
  refine lv_iload_n hx hb dX9_chooses_6 rfl (lv_at hl 1 rfl) ?_
  refine ty_isub hx hb dX9_chooses_7 (fun x7 h8 => ?_)
  try have h9 : x7.toInt = x4.toInt - p1.toInt := ty_sub h8 (by omega) (by omega)
  refine lv_istore (lv' := [(5, .int x7), (0, .ref h0), (1, .int p1), (2, .int p2), (3, .int p3), (4, .int p4)]) hx hb dX9_chooses_8 hl (by decide) rfl (fun ls hl => ?_)
  refine lv_iload hx hb dX9_chooses_10 (lv_at hl 0 rfl) ?_
  refine lv_aload_n hx hb dX9_chooses_12 rfl (lv_at hl 1 rfl) ?_
  refine get_X9_41 hx hb hA hown hE hG t_h0 wd_4_171 dX9_chooses_13 (fun x10 h11 => ?_)
  refine ty_icmp_lt (tgt := 39) hx hb dX9_chooses_16 (by decide) (fun c13 => ?_) (fun c13 => ?_)
  · skip
    exact W.vret hx hb hr (fun t ht hW => ⟨⟨g, rfl, ⟨(fun c j h138 h139 h140 h141 h142 => by rfl), (fun i => rfl), (fun i => rfl), (hB), (fun _ => by omega)⟩, ok1 ht hG⟩, hS.F ht⟩) hS.2.2 dX9_chooses_39
  · skip
    refine lv_iload hx hb dX9_chooses_19 (lv_at hl 0 rfl) ?_
    refine lv_aload_n hx hb dX9_chooses_21 rfl (lv_at hl 1 rfl) ?_
    refine get_X9_41 hx hb hA hown hE hG t_h0 wd_4_171 dX9_chooses_22 (fun x14 h15 => ?_)
    refine ty_icmp_ne (tgt := 40) hx hb dX9_chooses_25 (by decide) (fun c17 => ?_) (fun c17 => ?_)
    · skip
      refine lv_iload_n hx hb dX9_chooses_40 rfl (lv_at hl 2 rfl) ?_
      refine lv_aload_n hx hb dX9_chooses_41 rfl (lv_at hl 1 rfl) ?_
      refine get_X9_37 hx hb hA hown hE hG t_h0 wd_4_167 dX9_chooses_42 (fun x18 h19 => ?_)
      refine ty_icmp_ne (tgt := 94) hx hb dX9_chooses_45 (by decide) (fun c21 => ?_) (fun c21 => ?_)
      · exfalso; omega
      · skip
        refine lv_aload_n hx hb dX9_chooses_48 rfl (lv_at hl 1 rfl) ?_
        refine lv_iload_n hx hb dX9_chooses_49 rfl (lv_at hl 3 rfl) ?_
        refine put_X9_41 hx hb hA hown hE hG hS hU t_h0 wd_4_171 dX9_chooses_50 (fun H locs hG hS => ?_)
        refine lv_aload_n hx hb dX9_chooses_53 rfl (lv_at hl 1 rfl) ?_
        refine lv_iload hx hb dX9_chooses_54 (lv_at hl 5 rfl) ?_
        refine lv_iload_n hx hb dX9_chooses_56 rfl (lv_at hl 4 rfl) ?_
        refine ty_isub hx hb dX9_chooses_57 (fun x22 h23 => ?_)
        try have h24 : x22.toInt = p4.toInt - p3.toInt := ty_sub h23 (by omega) (by omega)
        refine put_X9_42 hx hb hA hown hE hG hS hU t_h0 wd_4_172 dX9_chooses_58 (fun H locs hG hS => ?_)
        refine ty_iconst hx hb (0) dX9_chooses_61 (by decide) (fun x25 h26 => ?_)
        refine lv_istore (lv' := [(6, .int x25), (5, .int x7), (0, .ref h0), (1, .int p1), (2, .int p2), (3, .int p3), (4, .int p4)]) hx hb dX9_chooses_62 hl (by decide) rfl (fun ls hl => ?_)
        have e28 : (gs (gs g 141 0 p2.toInt) 142 0 x22.toInt) 137 0 = g 137 0 := by simp [gs]
        have L_64 : ∀ (n : Nat) (v6_64 : Int32) (g27 : gh) (H : Heap) (locs : List Loc) (ls : Array Slot), (g27 137 0 - v6_64.toInt : Int) < n → 0 ≤ v6_64.toInt ∧ v6_64.toInt ≤ g27 137 0 → (∀ c j : Nat, c ≠ 139 → g27 c j = (gs (gs g 141 0 p2.toInt) 142 0 x22.toInt) c j) → (∀ i : Nat, (i : Int) < v6_64.toInt → g27 139 i = g 138 i) → ty_ok (dC, dI) vwCl Γ (TP dA Γ g27) sz X H → va_S (ty_A sz) s.heap H locs → lv_has ls 8 [(6, .int v6_64), (5, .int x7), (0, .ref h0), (1, .int p1), (2, .int p2), (3, .int p3), (4, .int p4)] → W p l e (headSpec (.code yX9_chooses cX9_chooses 8 (Option.none : Option Jvm.ClassFile.FieldType) :: AL) ({ frames := 0, cells := 0, slots := 0, locals := 0 })).room s m ([.ref h0, .int p1, .int p2, .int p3, .int p4] : List Value).toArray below meth c H locs 0 0 (MQ below (va_Qv (fun (u : gh) => (∀ c j : Nat, c ≠ 138 → c ≠ 139 → c ≠ 140 → c ≠ 141 → c ≠ 142 → u c j = g c j) ∧ (∀ i : Nat, u 138 i = g 138 i) ∧ (∀ i : Nat, u 140 i = g 140 i) ∧ (BG u (g 137 0).toNat) ∧ ((0 ≤ g 141 0 ∨ ∀ j : Nat, j < (g 137 0).toNat → g 140 j ≠ 1) → 0 ≤ u 141 0)) (okb dC dI dA sz X Γ) (ty_A sz)) ([.ref h0, .int p1, .int p2, .int p3, .int p4] : List Value).toArray s 0 0 (ty_A sz)) (F0 m 64 ls []) := by
          intro n
          induction n with
          | zero => intro v6_64 g27 H locs ls hm hi0 hf29 hq0 hG hS hl; exfalso; omega
          | succ n ih_64 =>
            intro v6_64 g27 H locs ls hm hi0 hf29 hq0 hG hS hl
            have hk30 : g27 137 0 = (gs (gs g 141 0 p2.toInt) 142 0 x22.toInt) 137 0 := hf29 137 0 (by decide)
            have hk30 : g27 137 0 = g 137 0 := by rw [hk30]; simp [gs]
            refine lv_iload hx hb dX9_chooses_64 (lv_at hl 0 rfl) ?_
            refine lv_aload_n hx hb dX9_chooses_66 rfl (lv_at hl 2 rfl) ?_
            refine get_X9_37 hx hb hA hown hE hG t_h0 wd_4_167 dX9_chooses_67 (fun x31 h32 => ?_)
            refine ty_icmp_ge (tgt := 93) hx hb dX9_chooses_70 (by decide) (fun c34 => ?_) (fun c34 => ?_)
            · skip
              have hr35 : g27 141 = (gs g 141 0 p2.toInt) 141 := funext fun j => by rw [hf29 141 j (by decide), gs_c _ _ _ _ (by decide)]
              exact W.vret hx hb hr (fun t ht hW => ⟨⟨g27, rfl, ⟨(fun c j h138 h139 h140 h141 h142 => by rw [hf29 c j h139, gs_c _ _ _ _ h142, gs_c _ _ _ _ h141]), (fun i => by rw [hf29 138 i (by decide), gs_c _ _ _ _ (by decide), gs_c _ _ _ _ (by decide)]), (fun i => by rw [hf29 140 i (by decide), gs_c _ _ _ _ (by decide), gs_c _ _ _ _ (by decide)]), (BG_leaf (g := g) (by have h9 := hC; rw [show p1.toInt.toNat = (g 137 0).toNat by omega] at h9; exact h9) (fun i hi => hq0 i (by omega))), (fun _ => by rw [hr35, gs_self]; omega)⟩, ok1 ht hG⟩, hS.F ht⟩) hS.2.2 dX9_chooses_93
            · skip
              refine lv_aload_n hx hb dX9_chooses_73 rfl (lv_at hl 2 rfl) ?_
              refine get_X9_39 hx hb hA hown hE hG t_h0 wd_4_169 dX9_chooses_74 (fun b36 (t_b36 : ty Γ b36 139) => ?_)
              refine lv_iload hx hb dX9_chooses_77 (lv_at hl 0 rfl) ?_
              refine lv_aload_n hx hb dX9_chooses_79 rfl (lv_at hl 2 rfl) ?_
              refine get_X9_38 hx hb hA hown hE hG t_h0 wd_4_168 dX9_chooses_80 (fun b37 (t_b37 : ty Γ b37 138) => ?_)
              refine lv_iload hx hb dX9_chooses_83 (lv_at hl 0 rfl) ?_
              refine ald_mI hx hb hE hG 38 rfl (n := 9) rfl (lo := -2) (hi := 8) rfl rfl t_b37 (by omega) dX9_chooses_85 (fun j39 x38 h40 h41 h42 => ?_)
              obtain rfl : j39 = v6_64.toInt.toNat := by omega
              replace h41 : x38.toInt = g27 138 v6_64.toInt.toNat := h41
              have hR9 : g27 138 v6_64.toInt.toNat = g 138 v6_64.toInt.toNat := by rw [hf29 138 v6_64.toInt.toNat (by decide), gs_c _ _ _ _ (by decide), gs_c _ _ _ _ (by decide)]
              have hA9 := (hC.1 v6_64.toInt.toNat (by omega)).1
              refine ast_mI hx hb hE hG hS hU 39 rfl (n := 9) rfl (lo := -1) (hi := 8) rfl rfl rfl t_b36 (by omega) (by omega) dX9_chooses_86 (fun H locs hG hS => ?_)
              obtain ⟨x43, h44⟩ : ∃ y : Int32, y = v6_64 + Int32.ofInt (1) := ⟨_, rfl⟩
              try have h45 : x43.toInt = v6_64.toInt + (1) := ty_inc h44 (by decide) (by omega) (by omega)
              refine lv_iinc (v := x43) (lv' := [(6, .int x43), (5, .int x7), (0, .ref h0), (1, .int p1), (2, .int p2), (3, .int p3), (4, .int p4)]) hx hb dX9_chooses_87 hl (k := 0) rfl h44.symm (by decide) rfl (fun ls hl => ?_)
              refine lv_goto (tgt := 64) hx hb dX9_chooses_90 (by decide) ?_
              have e46 : (gs g27 139 v6_64.toInt.toNat x38.toInt) 137 0 = g27 137 0 := by simp [gs]
              exact ih_64 x43 (gs g27 139 v6_64.toInt.toNat x38.toInt) _ _ ls (by omega) (by omega) (fun c j h139 => by rw [gs_c _ _ _ _ h139, hf29 c j h139]) (fun i hi => by by_cases e9 : i = v6_64.toInt.toNat; (rw [e9, gs_self]; omega); (rw [gs_j _ _ _ _ e9]; exact hq0 i (by omega))) hG hS (lv_sub hl [0, 1, 2, 3, 4, 5, 6] rfl)
        have e47 : (gs (gs g 141 0 p2.toInt) 142 0 x22.toInt) 137 0 = g 137 0 := by simp [gs]
        exact L_64 (((gs (gs g 141 0 p2.toInt) 142 0 x22.toInt) 137 0 - x25.toInt) + 1).toNat x25 (gs (gs g 141 0 p2.toInt) 142 0 x22.toInt) _ _ ls (by omega) (by omega) (fun c j _ => rfl) (fun i hi => absurd hi (by omega)) hG hS (lv_sub hl [0, 1, 2, 3, 4, 5, 6] rfl)
    · skip
      refine lv_iload hx hb dX9_chooses_28 (lv_at hl 5 rfl) ?_
      refine lv_iload_n hx hb dX9_chooses_30 rfl (lv_at hl 4 rfl) ?_
      refine ty_isub hx hb dX9_chooses_31 (fun x48 h49 => ?_)
      try have h50 : x48.toInt = p4.toInt - p3.toInt := ty_sub h49 (by omega) (by omega)
      refine lv_aload_n hx hb dX9_chooses_32 rfl (lv_at hl 1 rfl) ?_
      refine get_X9_42 hx hb hA hown hE hG t_h0 wd_4_172 dX9_chooses_33 (fun x51 h52 => ?_)
      refine ty_icmp_gt (tgt := 40) hx hb dX9_chooses_36 (by decide) (fun c54 => ?_) (fun c54 => ?_)
      · skip
        refine lv_iload_n hx hb dX9_chooses_40 rfl (lv_at hl 2 rfl) ?_
        refine lv_aload_n hx hb dX9_chooses_41 rfl (lv_at hl 1 rfl) ?_
        refine get_X9_37 hx hb hA hown hE hG t_h0 wd_4_167 dX9_chooses_42 (fun x55 h56 => ?_)
        refine ty_icmp_ne (tgt := 94) hx hb dX9_chooses_45 (by decide) (fun c58 => ?_) (fun c58 => ?_)
        · exfalso; omega
        · skip
          refine lv_aload_n hx hb dX9_chooses_48 rfl (lv_at hl 1 rfl) ?_
          refine lv_iload_n hx hb dX9_chooses_49 rfl (lv_at hl 3 rfl) ?_
          refine put_X9_41 hx hb hA hown hE hG hS hU t_h0 wd_4_171 dX9_chooses_50 (fun H locs hG hS => ?_)
          refine lv_aload_n hx hb dX9_chooses_53 rfl (lv_at hl 1 rfl) ?_
          refine lv_iload hx hb dX9_chooses_54 (lv_at hl 5 rfl) ?_
          refine lv_iload_n hx hb dX9_chooses_56 rfl (lv_at hl 4 rfl) ?_
          refine ty_isub hx hb dX9_chooses_57 (fun x59 h60 => ?_)
          try have h61 : x59.toInt = p4.toInt - p3.toInt := ty_sub h60 (by omega) (by omega)
          refine put_X9_42 hx hb hA hown hE hG hS hU t_h0 wd_4_172 dX9_chooses_58 (fun H locs hG hS => ?_)
          refine ty_iconst hx hb (0) dX9_chooses_61 (by decide) (fun x62 h63 => ?_)
          refine lv_istore (lv' := [(6, .int x62), (5, .int x7), (0, .ref h0), (1, .int p1), (2, .int p2), (3, .int p3), (4, .int p4)]) hx hb dX9_chooses_62 hl (by decide) rfl (fun ls hl => ?_)
          have e65 : (gs (gs g 141 0 p2.toInt) 142 0 x59.toInt) 137 0 = g 137 0 := by simp [gs]
          have L_64 : ∀ (n : Nat) (v6_64 : Int32) (g64 : gh) (H : Heap) (locs : List Loc) (ls : Array Slot), (g64 137 0 - v6_64.toInt : Int) < n → 0 ≤ v6_64.toInt ∧ v6_64.toInt ≤ g64 137 0 → (∀ c j : Nat, c ≠ 139 → g64 c j = (gs (gs g 141 0 p2.toInt) 142 0 x59.toInt) c j) → (∀ i : Nat, (i : Int) < v6_64.toInt → g64 139 i = g 138 i) → ty_ok (dC, dI) vwCl Γ (TP dA Γ g64) sz X H → va_S (ty_A sz) s.heap H locs → lv_has ls 8 [(6, .int v6_64), (5, .int x7), (0, .ref h0), (1, .int p1), (2, .int p2), (3, .int p3), (4, .int p4)] → W p l e (headSpec (.code yX9_chooses cX9_chooses 8 (Option.none : Option Jvm.ClassFile.FieldType) :: AL) ({ frames := 0, cells := 0, slots := 0, locals := 0 })).room s m ([.ref h0, .int p1, .int p2, .int p3, .int p4] : List Value).toArray below meth c H locs 0 0 (MQ below (va_Qv (fun (u : gh) => (∀ c j : Nat, c ≠ 138 → c ≠ 139 → c ≠ 140 → c ≠ 141 → c ≠ 142 → u c j = g c j) ∧ (∀ i : Nat, u 138 i = g 138 i) ∧ (∀ i : Nat, u 140 i = g 140 i) ∧ (BG u (g 137 0).toNat) ∧ ((0 ≤ g 141 0 ∨ ∀ j : Nat, j < (g 137 0).toNat → g 140 j ≠ 1) → 0 ≤ u 141 0)) (okb dC dI dA sz X Γ) (ty_A sz)) ([.ref h0, .int p1, .int p2, .int p3, .int p4] : List Value).toArray s 0 0 (ty_A sz)) (F0 m 64 ls []) := by
            intro n
            induction n with
            | zero => intro v6_64 g64 H locs ls hm hi0 hf66 hq0 hG hS hl; exfalso; omega
            | succ n ih_64 =>
              intro v6_64 g64 H locs ls hm hi0 hf66 hq0 hG hS hl
              have hk67 : g64 137 0 = (gs (gs g 141 0 p2.toInt) 142 0 x59.toInt) 137 0 := hf66 137 0 (by decide)
              have hk67 : g64 137 0 = g 137 0 := by rw [hk67]; simp [gs]
              refine lv_iload hx hb dX9_chooses_64 (lv_at hl 0 rfl) ?_
              refine lv_aload_n hx hb dX9_chooses_66 rfl (lv_at hl 2 rfl) ?_
              refine get_X9_37 hx hb hA hown hE hG t_h0 wd_4_167 dX9_chooses_67 (fun x68 h69 => ?_)
              refine ty_icmp_ge (tgt := 93) hx hb dX9_chooses_70 (by decide) (fun c71 => ?_) (fun c71 => ?_)
              · skip
                have hr72 : g64 141 = (gs g 141 0 p2.toInt) 141 := funext fun j => by rw [hf66 141 j (by decide), gs_c _ _ _ _ (by decide)]
                exact W.vret hx hb hr (fun t ht hW => ⟨⟨g64, rfl, ⟨(fun c j h138 h139 h140 h141 h142 => by rw [hf66 c j h139, gs_c _ _ _ _ h142, gs_c _ _ _ _ h141]), (fun i => by rw [hf66 138 i (by decide), gs_c _ _ _ _ (by decide), gs_c _ _ _ _ (by decide)]), (fun i => by rw [hf66 140 i (by decide), gs_c _ _ _ _ (by decide), gs_c _ _ _ _ (by decide)]), (BG_leaf (g := g) (by have h9 := hC; rw [show p1.toInt.toNat = (g 137 0).toNat by omega] at h9; exact h9) (fun i hi => hq0 i (by omega))), (fun _ => by rw [hr72, gs_self]; omega)⟩, ok1 ht hG⟩, hS.F ht⟩) hS.2.2 dX9_chooses_93
              · skip
                refine lv_aload_n hx hb dX9_chooses_73 rfl (lv_at hl 2 rfl) ?_
                refine get_X9_39 hx hb hA hown hE hG t_h0 wd_4_169 dX9_chooses_74 (fun b73 (t_b73 : ty Γ b73 139) => ?_)
                refine lv_iload hx hb dX9_chooses_77 (lv_at hl 0 rfl) ?_
                refine lv_aload_n hx hb dX9_chooses_79 rfl (lv_at hl 2 rfl) ?_
                refine get_X9_38 hx hb hA hown hE hG t_h0 wd_4_168 dX9_chooses_80 (fun b74 (t_b74 : ty Γ b74 138) => ?_)
                refine lv_iload hx hb dX9_chooses_83 (lv_at hl 0 rfl) ?_
                refine ald_mI hx hb hE hG 38 rfl (n := 9) rfl (lo := -2) (hi := 8) rfl rfl t_b74 (by omega) dX9_chooses_85 (fun j76 x75 h77 h78 h79 => ?_)
                obtain rfl : j76 = v6_64.toInt.toNat := by omega
                replace h78 : x75.toInt = g64 138 v6_64.toInt.toNat := h78
                have hR9 : g64 138 v6_64.toInt.toNat = g 138 v6_64.toInt.toNat := by rw [hf66 138 v6_64.toInt.toNat (by decide), gs_c _ _ _ _ (by decide), gs_c _ _ _ _ (by decide)]
                have hA9 := (hC.1 v6_64.toInt.toNat (by omega)).1
                refine ast_mI hx hb hE hG hS hU 39 rfl (n := 9) rfl (lo := -1) (hi := 8) rfl rfl rfl t_b73 (by omega) (by omega) dX9_chooses_86 (fun H locs hG hS => ?_)
                obtain ⟨x80, h81⟩ : ∃ y : Int32, y = v6_64 + Int32.ofInt (1) := ⟨_, rfl⟩
                try have h82 : x80.toInt = v6_64.toInt + (1) := ty_inc h81 (by decide) (by omega) (by omega)
                refine lv_iinc (v := x80) (lv' := [(6, .int x80), (5, .int x7), (0, .ref h0), (1, .int p1), (2, .int p2), (3, .int p3), (4, .int p4)]) hx hb dX9_chooses_87 hl (k := 0) rfl h81.symm (by decide) rfl (fun ls hl => ?_)
                refine lv_goto (tgt := 64) hx hb dX9_chooses_90 (by decide) ?_
                have e83 : (gs g64 139 v6_64.toInt.toNat x75.toInt) 137 0 = g64 137 0 := by simp [gs]
                exact ih_64 x80 (gs g64 139 v6_64.toInt.toNat x75.toInt) _ _ ls (by omega) (by omega) (fun c j h139 => by rw [gs_c _ _ _ _ h139, hf66 c j h139]) (fun i hi => by by_cases e9 : i = v6_64.toInt.toNat; (rw [e9, gs_self]; omega); (rw [gs_j _ _ _ _ e9]; exact hq0 i (by omega))) hG hS (lv_sub hl [0, 1, 2, 3, 4, 5, 6] rfl)
          have e84 : (gs (gs g 141 0 p2.toInt) 142 0 x59.toInt) 137 0 = g 137 0 := by simp [gs]
          exact L_64 (((gs (gs g 141 0 p2.toInt) 142 0 x59.toInt) 137 0 - x62.toInt) + 1).toNat x62 (gs (gs g 141 0 p2.toInt) 142 0 x59.toInt) _ _ ls (by omega) (by omega) (fun c j _ => rfl) (fun i hi => absurd hi (by omega)) hG hS (lv_sub hl [0, 1, 2, 3, 4, 5, 6] rfl)
      · skip
        exact W.vret hx hb hr (fun t ht hW => ⟨⟨g, rfl, ⟨(fun c j h138 h139 h140 h141 h142 => by rfl), (fun i => rfl), (fun i => rfl), (hB), (fun _ => by omega)⟩, ok1 ht hG⟩, hS.F ht⟩) hS.2.2 dX9_chooses_39
