set_option maxHeartbeats 4000000 in
set_option maxRecDepth 100000 in
/-- WeekBankModel.chooses:  -/
theorem k_X9_choosesS (D F L : Nat) (IH : ∀ (l : Launch) (dC : Nat → ClassId) (dI : Nat → Nat → Nat) (dA : Nat → ClassId) (sz : Nat) (X : va_W) (Γ : ty_G) (hU : Un Γ) (g : gh) (h0 : Nat) (t_h0 : ty Γ h0 30) (p1 : Int32) (p2 : Int32) (p3 : Int32) (p4 : Int32) (hk : 0 ≤ p1.toInt ∧ p1.toInt ≤ g 137 0 ∧ g 137 0 ≤ 9 ∧ 0 ≤ p2.toInt ∧ p2.toInt ≤ p1.toInt ∧ g 137 0 - p1.toInt ≤ (D : Int)) (hC : CH g (g 137 0).toNat p1.toInt.toNat) (hB : BG g (g 137 0).toNat), Met l yX9_chooses (.code yX9_chooses cX9_chooses 8 (Option.none : Option Jvm.ClassFile.FieldType) :: AL) ({ frames := F, cells := 0, slots := 0, locals := L }) (PCx dC dI dA sz X Γ g [.ref h0, .int p1, .int p2, .int p3, .int p4]) (va_Qv (fun (u : gh) => (∀ c j : Nat, c ≠ 138 → c ≠ 139 → c ≠ 140 → c ≠ 141 → c ≠ 142 → u c j = g c j) ∧ (∀ i : Nat, u 138 i = g 138 i) ∧ (∀ i : Nat, u 140 i = g 140 i) ∧ (BG u (g 137 0).toNat) ∧ ((0 ≤ g 141 0 ∨ ∀ j : Nat, j < (g 137 0).toNat → g 140 j ≠ 1) → 0 ≤ u 141 0)) (okb dC dI dA sz X Γ) (ty_A sz)) 0 0 (ty_A sz)) (l : Launch) (dC : Nat → ClassId) (dI : Nat → Nat → Nat) (dA : Nat → ClassId) (sz : Nat) (X : va_W) (Γ : ty_G) (hU : Un Γ) (g : gh) (h0 : Nat) (t_h0 : ty Γ h0 30) (p1 : Int32) (p2 : Int32) (p3 : Int32) (p4 : Int32) (hk : 0 ≤ p1.toInt ∧ p1.toInt ≤ g 137 0 ∧ g 137 0 ≤ 9 ∧ 0 ≤ p2.toInt ∧ p2.toInt ≤ p1.toInt ∧ g 137 0 - p1.toInt ≤ (D : Int) + 1) (hC : CH g (g 137 0).toNat p1.toInt.toNat) (hB : BG g (g 137 0).toNat) : Met l yX9_chooses (.code yX9_chooses cX9_chooses 8 (Option.none : Option Jvm.ClassFile.FieldType) :: AL) ({ frames := F + 3, cells := 0, slots := 0, locals := L + 100 }) (PCx dC dI dA sz X Γ g [.ref h0, .int p1, .int p2, .int p3, .int p4]) (va_Qv (fun (u : gh) => (∀ c j : Nat, c ≠ 138 → c ≠ 139 → c ≠ 140 → c ≠ 141 → c ≠ 142 → u c j = g c j) ∧ (∀ i : Nat, u 138 i = g 138 i) ∧ (∀ i : Nat, u 140 i = g 140 i) ∧ (BG u (g 137 0).toNat) ∧ ((0 ≤ g 141 0 ∨ ∀ j : Nat, j < (g 137 0).toNat → g 140 j ≠ 1) → 0 ≤ u 141 0)) (okb dC dI dA sz X Γ) (ty_A sz)) 0 0 (ty_A sz) := by
  refine Met.ofW (cc := cX9_chooses) (maxL := 8) (ret := (Option.none : Option Jvm.ClassFile.FieldType)) (by decide) rfl ?_
  intro p e s m args below meth c s₁ B hml hv
  obtain ⟨rfl, hG, hE⟩ := hv
  have hx := B.exec
  have hb := B.bytes
  have hr := B.returns
  have hts := atoms_spec B.pre
  have hA : ∀ w ∈ AL, w.before _ s = true := fun w h => hts w (List.mem_cons_of_mem _ h)
  have hown : s.vm.findClass RX9 = some m.cls := findClass_of_methodNamed B.named
  have hlocks := B.notSynchronized
  have hS : va_S (ty_A sz) s.heap s.heap [] := va_S.rf
  have hl := lv_entry ([.ref h0, .int p1, .int p2, .int p3, .int p4]) (n := 8) (Nat.le_of_ble_eq_true rfl)
  rw [lg_entry_eq]
  generalize (lg_sl ([.ref h0, .int p1, .int p2, .int p3, .int p4]) ++ List.replicate (8 - (lg_sl ([.ref h0, .int p1, .int p2, .int p3, .int p4])).length) Slot.unset).toArray = ls at hl ⊢
  have hl : lv_has ls 8 [(0, .ref h0), (1, .int p1), (2, .int p2), (3, .int p3), (4, .int p4)] := hl
  refine lv_iload_n hx hb dX9_chooses_0 rfl (lv_at hl 2 rfl) ?_
  refine lv_aload_n hx hb dX9_chooses_1 rfl (lv_at hl 0 rfl) ?_
  refine get_X9_37 hx hb hA hown hE hG t_h0 wd_4_167 dX9_chooses_2 (fun x1 h2 => ?_)
  refine ty_iadd hx hb dX9_chooses_5 (fun x4 h5 => ?_)
  try have h6 : x4.toInt = p2.toInt + x1.toInt := ty_add h5 (by omega) (by omega)
  refine lv_iload_n hx hb dX9_chooses_6 rfl (lv_at hl 1 rfl) ?_
  refine ty_isub hx hb dX9_chooses_7 (fun x7 h8 => ?_)
  try have h9 : x7.toInt = x4.toInt - p1.toInt := ty_sub h8 (by omega) (by omega)
  refine lv_istore (lv' := [(5, .int x7), (0, .ref h0), (1, .int p1), (2, .int p2), (3, .int p3), (4, .int p4)]) hx hb dX9_chooses_8 hl (by decide) rfl (fun ls hl => ?_)
  refine lv_iload hx hb dX9_chooses_10 (lv_at hl 0 rfl) ?_
  refine lv_aload_n hx hb dX9_chooses_12 rfl (lv_at hl 1 rfl) ?_
  refine get_X9_41 hx hb hA hown hE hG t_h0 wd_4_171 dX9_chooses_13 (fun x10 h11 => ?_)
  refine ty_icmp_lt (tgt := 39) hx hb dX9_chooses_16 (by decide) (fun c13 => ?_) (fun c13 => ?_)
  · skip
    exact W.vret hx hb hr (fun t ht hW => ⟨⟨g, rfl, ⟨(fun c j h138 h139 h140 h141 h142 => by rfl), (fun i => rfl), (fun i => rfl), (hB), (fun _ => by omega)⟩, ok1 ht hG⟩, hS.F ht⟩) hS.2.2 dX9_chooses_39
  · skip
    refine lv_iload hx hb dX9_chooses_19 (lv_at hl 0 rfl) ?_
    refine lv_aload_n hx hb dX9_chooses_21 rfl (lv_at hl 1 rfl) ?_
    refine get_X9_41 hx hb hA hown hE hG t_h0 wd_4_171 dX9_chooses_22 (fun x14 h15 => ?_)
    refine ty_icmp_ne (tgt := 40) hx hb dX9_chooses_25 (by decide) (fun c17 => ?_) (fun c17 => ?_)
    · skip
      refine lv_iload_n hx hb dX9_chooses_40 rfl (lv_at hl 2 rfl) ?_
      refine lv_aload_n hx hb dX9_chooses_41 rfl (lv_at hl 1 rfl) ?_
      refine get_X9_37 hx hb hA hown hE hG t_h0 wd_4_167 dX9_chooses_42 (fun x18 h19 => ?_)
      refine ty_icmp_ne (tgt := 94) hx hb dX9_chooses_45 (by decide) (fun c21 => ?_) (fun c21 => ?_)
      · skip
        refine ty_iconst hx hb (0) dX9_chooses_94 (by decide) (fun x22 h23 => ?_)
        refine lv_istore (lv' := [(6, .int x22), (5, .int x7), (0, .ref h0), (1, .int p1), (2, .int p2), (3, .int p3), (4, .int p4)]) hx hb dX9_chooses_95 hl (by decide) rfl (fun ls hl => ?_)
        have L_97 : ∀ (n : Nat) (v6_97 : Int32) (g24 : gh) (H : Heap) (locs : List Loc) (ls : Array Slot), (g24 137 0 - v6_97.toInt : Int) < n → 0 ≤ v6_97.toInt ∧ v6_97.toInt ≤ g24 137 0 → (∀ c j : Nat, c ≠ 138 → c ≠ 139 → c ≠ 140 → c ≠ 141 → c ≠ 142 → g24 c j = g c j) → (∀ i : Nat, i ≠ p1.toInt.toNat → g24 138 i = g 138 i) → (∀ i : Nat, g24 140 i = g 140 i) → (BG g24 (g 137 0).toNat) → (0 ≤ g 141 0 → 0 ≤ g24 141 0) → ty_ok (dC, dI) vwCl Γ (TP dA Γ g24) sz X H → va_S (ty_A sz) s.heap H locs → lv_has ls 8 [(6, .int v6_97), (5, .int x7), (0, .ref h0), (1, .int p1), (2, .int p2), (3, .int p3), (4, .int p4)] → W p l e (headSpec (.code yX9_chooses cX9_chooses 8 (Option.none : Option Jvm.ClassFile.FieldType) :: AL) ({ frames := F + 3, cells := 0, slots := 0, locals := L + 100 })).room s m ([.ref h0, .int p1, .int p2, .int p3, .int p4] : List Value).toArray below meth c H locs 0 0 (MQ below (va_Qv (fun (u : gh) => (∀ c j : Nat, c ≠ 138 → c ≠ 139 → c ≠ 140 → c ≠ 141 → c ≠ 142 → u c j = g c j) ∧ (∀ i : Nat, u 138 i = g 138 i) ∧ (∀ i : Nat, u 140 i = g 140 i) ∧ (BG u (g 137 0).toNat) ∧ ((0 ≤ g 141 0 ∨ ∀ j : Nat, j < (g 137 0).toNat → g 140 j ≠ 1) → 0 ≤ u 141 0)) (okb dC dI dA sz X Γ) (ty_A sz)) ([.ref h0, .int p1, .int p2, .int p3, .int p4] : List Value).toArray s 0 0 (ty_A sz)) (F0 m 97 ls []) := by
          intro n
          induction n with
          | zero => intro v6_97 g24 H locs ls hm hi0 hf25 hq0 hq1 hq2 hq3 hG hS hl; exfalso; omega
          | succ n ih_97 =>
            intro v6_97 g24 H locs ls hm hi0 hf25 hq0 hq1 hq2 hq3 hG hS hl
            have hk26 : g24 137 0 = g 137 0 := hf25 137 0 (by decide) (by decide) (by decide) (by decide) (by decide)
            refine lv_iload hx hb dX9_chooses_97 (lv_at hl 0 rfl) ?_
            refine lv_aload_n hx hb dX9_chooses_99 rfl (lv_at hl 2 rfl) ?_
            refine get_X9_37 hx hb hA hown hE hG t_h0 wd_4_167 dX9_chooses_100 (fun x27 h28 => ?_)
            refine ty_icmp_ge (tgt := 233) hx hb dX9_chooses_103 (by decide) (fun c30 => ?_) (fun c30 => ?_)
            · skip
              refine lv_aload_n hx hb dX9_chooses_233 rfl (lv_at hl 2 rfl) ?_
              refine get_X9_38 hx hb hA hown hE hG t_h0 wd_4_168 dX9_chooses_234 (fun b31 (t_b31 : ty Γ b31 138) => ?_)
              refine lv_iload_n hx hb dX9_chooses_237 rfl (lv_at hl 3 rfl) ?_
              refine ty_iconst hx hb (-1) dX9_chooses_238 (by decide) (fun x32 h33 => ?_)
              refine ast_mI hx hb hE hG hS hU 38 rfl (n := 9) rfl (lo := -2) (hi := 8) rfl rfl rfl t_b31 (by omega) (by omega) dX9_chooses_239 (fun H locs hG hS => ?_)
              refine lv_aload_n hx hb dX9_chooses_240 rfl (lv_at hl 2 rfl) ?_
              refine get_X9_40 hx hb hA hown hE hG t_h0 wd_4_170 dX9_chooses_241 (fun b34 (t_b34 : ty Γ b34 140) => ?_)
              refine lv_iload_n hx hb dX9_chooses_244 rfl (lv_at hl 3 rfl) ?_
              refine ald_mZ hx hb hE hG 40 rfl (n := 9) rfl (lo := 0) (hi := 1) rfl rfl t_b34 (by omega) dX9_chooses_245 (fun j36 x35 h37 h38 h39 => ?_)
              obtain rfl : j36 = p1.toInt.toNat := by omega
              rw [gs_c _ _ _ _ (by decide)] at h38
              replace h38 : x35.toInt = g24 140 p1.toInt.toNat := h38
              refine ty_if_ne (tgt := 272) hx hb dX9_chooses_246 (by decide) (fun c40 => ?_) (fun c40 => ?_)
              · skip
                refine lv_aload_n hx hb dX9_chooses_272 rfl (lv_at hl 2 rfl) ?_
                refine get_X9_38 hx hb hA hown hE hG t_h0 wd_4_168 dX9_chooses_273 (fun b41 (t_b41 : ty Γ b41 138) => ?_)
                refine lv_iload_n hx hb dX9_chooses_276 rfl (lv_at hl 3 rfl) ?_
                refine ty_bipush hx hb (-2) dX9_chooses_277 (by decide) (fun x42 h43 => ?_)
                refine ast_mI hx hb hE hG hS hU 38 rfl (n := 9) rfl (lo := -2) (hi := 8) rfl rfl rfl t_b41 (by omega) (by omega) dX9_chooses_279 (fun H locs hG hS => ?_)
                exact W.vret hx hb hr (fun t ht hW => ⟨⟨(gs (gs g24 138 p1.toInt.toNat x32.toInt) 138 p1.toInt.toNat x42.toInt), rfl, ⟨(fun c j h138 h139 h140 h141 h142 => by rw [gs_c _ _ _ _ h138, gs_c _ _ _ _ h138, hf25 c j h138 h139 h140 h141 h142]), (fun i => by by_cases hi : i = p1.toInt.toNat; (rw [hi, gs_self, hC.2.1 p1.toInt.toNat (by omega) (by omega)]; omega); (rw [gs_j _ _ _ _ hi]; rw [gs_j _ _ _ _ hi]; exact hq0 i hi)), (fun i => by rw [gs_c _ _ _ _ (by decide), gs_c _ _ _ _ (by decide)]; exact hq1 i), (BG_cg (by rw [gs_c _ _ _ _ (by decide), gs_c _ _ _ _ (by decide)]) (fun i => by rw [gs_c _ _ _ _ (by decide), gs_c _ _ _ _ (by decide)]) hq2), (fun h => by rw [gs_c _ _ _ _ (by decide), gs_c _ _ _ _ (by decide)]; exact hq3 (h.elim id (fun h9 => absurd (show g 140 p1.toInt.toNat = 1 by have := hq1 p1.toInt.toNat; omega) (h9 p1.toInt.toNat (by omega)))))⟩, ok1 ht hG⟩, hS.F ht⟩) hS.2.2 dX9_chooses_280
              · skip
                have hz9 := hq1 p1.toInt.toNat
                have h137 : (gs g24 138 p1.toInt.toNat x32.toInt) 137 0 = g 137 0 := by rw [gs_c _ _ _ _ (by decide), hf25 137 0 (by decide) (by decide) (by decide) (by decide) (by decide)]
                have hC2 : CH (gs g24 138 p1.toInt.toNat x32.toInt) (g 137 0).toNat (p1.toInt.toNat + 1) := CH_none hC (by omega) (by omega) (by rw [gs_self]; omega) (fun i hi => by rw [gs_j _ _ _ _ hi]; exact hq0 i hi) (fun i => by rw [gs_c _ _ _ _ (by decide)]; exact hq1 i)
                refine lv_aload_n hx hb dX9_chooses_249 rfl (lv_at hl 2 rfl) ?_
                refine lv_iload_n hx hb dX9_chooses_250 rfl (lv_at hl 3 rfl) ?_
                refine ty_iconst hx hb (1) dX9_chooses_251 (by decide) (fun x44 h45 => ?_)
                refine ty_iadd hx hb dX9_chooses_252 (fun x46 h47 => ?_)
                try have h48 : x46.toInt = p1.toInt + x44.toInt := ty_add h47 (by omega) (by omega)
                refine lv_iload_n hx hb dX9_chooses_253 rfl (lv_at hl 4 rfl) ?_
                refine lv_iload_n hx hb dX9_chooses_254 rfl (lv_at hl 5 rfl) ?_
                refine lv_aload_n hx hb dX9_chooses_255 rfl (lv_at hl 2 rfl) ?_
                refine get_X9_31 hx hb hA hown hE hG t_h0 wd_4_161 dX9_chooses_256 (fun b49 (t_b49 : ty Γ b49 131) => ?_)
                refine lv_aload_n hx hb dX9_chooses_259 rfl (lv_at hl 2 rfl) ?_
                refine get_X9_36 hx hb hA hown hE hG t_h0 wd_4_166 dX9_chooses_260 (fun b50 (t_b50 : ty Γ b50 136) => ?_)
                refine lv_iload_n hx hb dX9_chooses_263 rfl (lv_at hl 3 rfl) ?_
                refine ald_mI hx hb hE hG 36 rfl (n := 9) rfl (lo := 0) (hi := 199) rfl rfl t_b50 (by omega) dX9_chooses_264 (fun j52 x51 h53 h54 h55 => ?_)
                obtain rfl : j52 = p1.toInt.toNat := by omega
                rw [gs_c _ _ _ _ (by decide)] at h54
                replace h54 : x51.toInt = g24 136 p1.toInt.toNat := h54
                refine ald_mI hx hb hE hG 31 rfl (n := 200) rfl (lo := -2147483648) (hi := 2147483647) rfl rfl t_b49 (by omega) dX9_chooses_265 (fun j57 x56 h58 h59 h60 => ?_)
                clear h60
                obtain rfl : j57 = x51.toInt.toNat := by omega
                rw [gs_c _ _ _ _ (by decide)] at h59
                replace h59 : x56.toInt = g24 131 x51.toInt.toNat := h59
                refine ty_iadd hx hb dX9_chooses_266 (fun x61 h62 => ?_)
                refine lv_iload hx hb dX9_chooses_267 (lv_at hl 6 rfl) ?_
                have e64 : (gs g24 138 p1.toInt.toNat x32.toInt) 137 0 = g24 137 0 := by simp [gs]
                have e65 : (gs g24 138 p1.toInt.toNat x32.toInt) 137 0 = g24 137 0 := by simp [gs]
                have e66 : (gs g24 138 p1.toInt.toNat x32.toInt) 137 0 = g24 137 0 := by simp [gs]
                refine cV (va_runV (C := RX9) (As := [.int x46, .int p2, .int x61, .int p4]) (rest := []) ⟨hx, hb, hml, hown, hA⟩ (IH l dC dI dA sz X Γ hU (gs g24 138 p1.toInt.toNat x32.toInt) h0 t_h0 x46 p2 x61 p4   (by omega) (by rw [h137, show x46.toInt.toNat = p1.toInt.toNat + 1 by omega]; exact hC2) (by rw [h137]; exact BG_cg (by rw [gs_c _ _ _ _ (by decide)]) (fun i => by rw [gs_c _ _ _ _ (by decide)]) hq2)) ⟨callB_of 4 hA (al_A wd_5_152) rfl rfl rfl (hA _ wd_1_7) (hA _ wd_5_149) (by decide +kernel) ⟨Nat.add_le_add_left (by decide) F, show 8 + (8 + 11) + L ≤ L + 100 by omega⟩, hA _ wd_5_151, hA _ ws_49⟩ ⟨bl, recv_X9 hE hG t_h0, fun U hU9 hW9 => ⟨rfl, by rw [hU9]; exact hG, hE.go hS hU9 hW9⟩⟩ rfl rfl hl.1 rfl (lv_room (Nat.le_of_ble_eq_true rfl)) dX9_chooses_269 ⟨Nat.zero_le _, Nat.zero_le _⟩) hS (fun u67 H locs w68 hG hS => ?_)
                obtain ⟨hf73, hq69, hq70, hq71, hq72⟩ := w68
                refine lv_aload_n hx hb dX9_chooses_272 rfl (lv_at hl 2 rfl) ?_
                refine get_X9_38 hx hb hA hown hE hG t_h0 wd_4_168 dX9_chooses_273 (fun b74 (t_b74 : ty Γ b74 138) => ?_)
                refine lv_iload_n hx hb dX9_chooses_276 rfl (lv_at hl 3 rfl) ?_
                refine ty_bipush hx hb (-2) dX9_chooses_277 (by decide) (fun x75 h76 => ?_)
                refine ast_mI hx hb hE hG hS hU 38 rfl (n := 9) rfl (lo := -2) (hi := 8) rfl rfl rfl t_b74 (by omega) (by omega) dX9_chooses_279 (fun H locs hG hS => ?_)
                exact W.vret hx hb hr (fun t ht hW => ⟨⟨(gs u67 138 p1.toInt.toNat x75.toInt), rfl, ⟨(fun c j h138 h139 h140 h141 h142 => by rw [gs_c _ _ _ _ h138, hf73 c j h138 h139 h140 h141 h142, gs_c _ _ _ _ h138, hf25 c j h138 h139 h140 h141 h142]), (fun i => by by_cases hi : i = p1.toInt.toNat; (rw [hi, gs_self, hC.2.1 p1.toInt.toNat (by omega) (by omega)]; omega); (rw [gs_j _ _ _ _ hi]; rw [hq69 i, gs_j _ _ _ _ hi]; exact hq0 i hi)), (fun i => by rw [gs_c _ _ _ _ (by decide), hq70 i, gs_c _ _ _ _ (by decide)]; exact hq1 i), (BG_cg (by rw [gs_c _ _ _ _ (by decide)]) (fun i => by rw [gs_c _ _ _ _ (by decide)]) (by have h9 := hq71; rw [h137] at h9; exact h9)), (fun h => by rw [gs_c _ _ _ _ (by decide)]; exact hq72 (h.elim (fun h9 => Or.inl (by rw [gs_c _ _ _ _ (by decide)]; exact hq3 h9)) (fun h9 => Or.inr (fun j hj => by rw [h137] at hj; rw [gs_c _ _ _ _ (by decide)]; rw [hq1 j]; exact h9 j hj))))⟩, ok1 ht hG⟩, hS.F ht⟩) hS.2.2 dX9_chooses_280
            · skip
              refine lv_iload hx hb dX9_chooses_106 (lv_at hl 0 rfl) ?_
              refine lv_iload_n hx hb dX9_chooses_108 rfl (lv_at hl 3 rfl) ?_
              refine ty_icmp_eq (tgt := 163) hx hb dX9_chooses_109 (by decide) (fun c77 => ?_) (fun c77 => ?_)
              · skip
                refine ty_iconst hx hb (0) dX9_chooses_163 (by decide) (fun x78 h79 => ?_)
                refine lv_istore (lv' := [(7, .int x78), (6, .int v6_97), (5, .int x7), (0, .ref h0), (1, .int p1), (2, .int p2), (3, .int p3), (4, .int p4)]) hx hb dX9_chooses_164 hl (by decide) rfl (fun ls hl => ?_)
                refine lv_iload hx hb dX9_chooses_166 (lv_at hl 0 rfl) ?_
                refine ty_if_ne (tgt := 174) hx hb dX9_chooses_168 (by decide) (fun c80 => ?_) (fun c80 => ?_)
                · exfalso; omega
                · skip
                  refine lv_goto (tgt := 227) hx hb dX9_chooses_171 (by decide) ?_
                  obtain ⟨x81, h82⟩ : ∃ y : Int32, y = v6_97 + Int32.ofInt (1) := ⟨_, rfl⟩
                  try have h83 : x81.toInt = v6_97.toInt + (1) := ty_inc h82 (by decide) (by omega) (by omega)
                  refine lv_iinc (v := x81) (lv' := [(6, .int x81), (7, .int x78), (5, .int x7), (0, .ref h0), (1, .int p1), (2, .int p2), (3, .int p3), (4, .int p4)]) hx hb dX9_chooses_227 hl (k := 1) rfl h82.symm (by decide) rfl (fun ls hl => ?_)
                  refine lv_goto (tgt := 97) hx hb dX9_chooses_230 (by decide) ?_
                  exact ih_97 x81 g24 _ _ ls (by omega) (by omega) (fun c j h138 h139 h140 h141 h142 => by rw [hf25 c j h138 h139 h140 h141 h142]) (hq0) (hq1) (hq2) (hq3) hG hS (lv_sub hl [0, 2, 3, 4, 5, 6, 7] rfl)
              · skip
                refine lv_aload_n hx hb dX9_chooses_112 rfl (lv_at hl 2 rfl) ?_
                refine get_X9_40 hx hb hA hown hE hG t_h0 wd_4_170 dX9_chooses_113 (fun b84 (t_b84 : ty Γ b84 140) => ?_)
                refine lv_iload hx hb dX9_chooses_116 (lv_at hl 0 rfl) ?_
                refine ald_mZ hx hb hE hG 40 rfl (n := 9) rfl (lo := 0) (hi := 1) rfl rfl t_b84 (by omega) dX9_chooses_118 (fun j86 x85 h87 h88 h89 => ?_)
                obtain rfl : j86 = v6_97.toInt.toNat := by omega
                replace h88 : x85.toInt = g24 140 v6_97.toInt.toNat := h88
                refine ty_if_ne (tgt := 163) hx hb dX9_chooses_119 (by decide) (fun c90 => ?_) (fun c90 => ?_)
                · skip
                  refine ty_iconst hx hb (0) dX9_chooses_163 (by decide) (fun x91 h92 => ?_)
                  refine lv_istore (lv' := [(7, .int x91), (6, .int v6_97), (5, .int x7), (0, .ref h0), (1, .int p1), (2, .int p2), (3, .int p3), (4, .int p4)]) hx hb dX9_chooses_164 hl (by decide) rfl (fun ls hl => ?_)
                  refine lv_iload hx hb dX9_chooses_166 (lv_at hl 0 rfl) ?_
                  refine ty_if_ne (tgt := 174) hx hb dX9_chooses_168 (by decide) (fun c93 => ?_) (fun c93 => ?_)
                  · exfalso; omega
                  · skip
                    refine lv_goto (tgt := 227) hx hb dX9_chooses_171 (by decide) ?_
                    obtain ⟨x94, h95⟩ : ∃ y : Int32, y = v6_97 + Int32.ofInt (1) := ⟨_, rfl⟩
                    try have h96 : x94.toInt = v6_97.toInt + (1) := ty_inc h95 (by decide) (by omega) (by omega)
                    refine lv_iinc (v := x94) (lv' := [(6, .int x94), (7, .int x91), (5, .int x7), (0, .ref h0), (1, .int p1), (2, .int p2), (3, .int p3), (4, .int p4)]) hx hb dX9_chooses_227 hl (k := 1) rfl h95.symm (by decide) rfl (fun ls hl => ?_)
                    refine lv_goto (tgt := 97) hx hb dX9_chooses_230 (by decide) ?_
                    exact ih_97 x94 g24 _ _ ls (by omega) (by omega) (fun c j h138 h139 h140 h141 h142 => by rw [hf25 c j h138 h139 h140 h141 h142]) (hq0) (hq1) (hq2) (hq3) hG hS (lv_sub hl [0, 2, 3, 4, 5, 6, 7] rfl)
                · skip
                  refine lv_iload hx hb dX9_chooses_122 (lv_at hl 0 rfl) ?_
                  refine lv_iload_n hx hb dX9_chooses_124 rfl (lv_at hl 3 rfl) ?_
                  refine ty_icmp_gt (tgt := 139) hx hb dX9_chooses_125 (by decide) (fun c97 => ?_) (fun c97 => ?_)
                  · skip
                    refine lv_aload_n hx hb dX9_chooses_139 rfl (lv_at hl 2 rfl) ?_
                    refine lv_aload_n hx hb dX9_chooses_140 rfl (lv_at hl 2 rfl) ?_
                    refine get_X9_36 hx hb hA hown hE hG t_h0 wd_4_166 dX9_chooses_141 (fun b98 (t_b98 : ty Γ b98 136) => ?_)
                    refine lv_iload hx hb dX9_chooses_144 (lv_at hl 0 rfl) ?_
                    refine ald_mI hx hb hE hG 36 rfl (n := 9) rfl (lo := 0) (hi := 199) rfl rfl t_b98 (by omega) dX9_chooses_146 (fun j100 x99 h101 h102 h103 => ?_)
                    obtain rfl : j100 = v6_97.toInt.toNat := by omega
                    replace h102 : x99.toInt = g24 136 v6_97.toInt.toNat := h102
                    refine lv_aload_n hx hb dX9_chooses_147 rfl (lv_at hl 2 rfl) ?_
                    refine get_X9_36 hx hb hA hown hE hG t_h0 wd_4_166 dX9_chooses_148 (fun b104 (t_b104 : ty Γ b104 136) => ?_)
                    refine lv_iload_n hx hb dX9_chooses_151 rfl (lv_at hl 3 rfl) ?_
                    refine ald_mI hx hb hE hG 36 rfl (n := 9) rfl (lo := 0) (hi := 199) rfl rfl t_b104 (by omega) dX9_chooses_152 (fun j106 x105 h107 h108 h109 => ?_)
                    obtain rfl : j106 = p1.toInt.toNat := by omega
                    replace h108 : x105.toInt = g24 136 p1.toInt.toNat := h108
                    refine cI (va_runV (C := RX9) (As := [.int x99, .int x105]) (rest := []) ⟨hx, hb, hml, hown, hA⟩ (k_X9_meets l dC dI dA sz X Γ hU g24 h0 t_h0 x99 x105   (by omega)) ⟨callB_of 2 hA (al_A wd_5_156) rfl rfl rfl (hA _ wd_1_7) (hA _ wd_5_153) (by decide +kernel) ⟨Nat.le_trans (Nat.le_of_ble_eq_true rfl) (Nat.le_add_left 3 F), Nat.le_trans (Nat.le_of_ble_eq_true rfl) (Nat.le_add_left 100 L)⟩, hA _ wd_5_155, hA _ ws_50⟩ ⟨bl, recv_X9 hE hG t_h0, fun U hU9 hW9 => ⟨rfl, by rw [hU9]; exact hG, hE.go hS hU9 hW9⟩⟩ rfl rfl hl.1 rfl (lv_room (Nat.le_of_ble_eq_true rfl)) dX9_chooses_153 ⟨Nat.zero_le _, Nat.zero_le _⟩) hS (fun x112 u110 H locs w111 hG hS => ?_)
                    obtain ⟨eu113, w111⟩ := w111
                    rw [eu113] at hG
                    refine ty_if_eq (tgt := 163) hx hb dX9_chooses_156 (by decide) (fun c114 => ?_) (fun c114 => ?_)
                    · skip
                      refine ty_iconst hx hb (0) dX9_chooses_163 (by decide) (fun x115 h116 => ?_)
                      refine lv_istore (lv' := [(7, .int x115), (6, .int v6_97), (5, .int x7), (0, .ref h0), (1, .int p1), (2, .int p2), (3, .int p3), (4, .int p4)]) hx hb dX9_chooses_164 hl (by decide) rfl (fun ls hl => ?_)
                      refine lv_iload hx hb dX9_chooses_166 (lv_at hl 0 rfl) ?_
                      refine ty_if_ne (tgt := 174) hx hb dX9_chooses_168 (by decide) (fun c117 => ?_) (fun c117 => ?_)
                      · exfalso; omega
                      · skip
                        refine lv_goto (tgt := 227) hx hb dX9_chooses_171 (by decide) ?_
                        obtain ⟨x118, h119⟩ : ∃ y : Int32, y = v6_97 + Int32.ofInt (1) := ⟨_, rfl⟩
                        try have h120 : x118.toInt = v6_97.toInt + (1) := ty_inc h119 (by decide) (by omega) (by omega)
                        refine lv_iinc (v := x118) (lv' := [(6, .int x118), (7, .int x115), (5, .int x7), (0, .ref h0), (1, .int p1), (2, .int p2), (3, .int p3), (4, .int p4)]) hx hb dX9_chooses_227 hl (k := 1) rfl h119.symm (by decide) rfl (fun ls hl => ?_)
                        refine lv_goto (tgt := 97) hx hb dX9_chooses_230 (by decide) ?_
                        exact ih_97 x118 g24 _ _ ls (by omega) (by omega) (fun c j h138 h139 h140 h141 h142 => by rw [hf25 c j h138 h139 h140 h141 h142]) (hq0) (hq1) (hq2) (hq3) hG hS (lv_sub hl [0, 2, 3, 4, 5, 6, 7] rfl)
                    · skip
                      refine ty_iconst hx hb (1) dX9_chooses_159 (by decide) (fun x121 h122 => ?_)
                      refine lv_goto (tgt := 164) hx hb dX9_chooses_160 (by decide) ?_
                      refine lv_istore (lv' := [(7, .int x121), (6, .int v6_97), (5, .int x7), (0, .ref h0), (1, .int p1), (2, .int p2), (3, .int p3), (4, .int p4)]) hx hb dX9_chooses_164 hl (by decide) rfl (fun ls hl => ?_)
                      refine lv_iload hx hb dX9_chooses_166 (lv_at hl 0 rfl) ?_
                      refine ty_if_ne (tgt := 174) hx hb dX9_chooses_168 (by decide) (fun c123 => ?_) (fun c123 => ?_)
                      · skip
                        refine lv_aload_n hx hb dX9_chooses_174 rfl (lv_at hl 3 rfl) ?_
                        refine get_X9_38 hx hb hA hown hE hG t_h0 wd_4_168 dX9_chooses_175 (fun b124 (t_b124 : ty Γ b124 138) => ?_)
                        refine lv_iload_n hx hb dX9_chooses_178 rfl (lv_at hl 4 rfl) ?_
                        refine lv_iload hx hb dX9_chooses_179 (lv_at hl 1 rfl) ?_
                        refine ast_mI hx hb hE hG hS hU 38 rfl (n := 9) rfl (lo := -2) (hi := 8) rfl rfl rfl t_b124 (by omega) (by omega) dX9_chooses_181 (fun H locs hG hS => ?_)
                        refine lv_aload_n hx hb dX9_chooses_182 rfl (lv_at hl 3 rfl) ?_
                        refine get_X9_40 hx hb hA hown hE hG t_h0 wd_4_170 dX9_chooses_183 (fun b125 (t_b125 : ty Γ b125 140) => ?_)
                        refine lv_iload hx hb dX9_chooses_186 (lv_at hl 1 rfl) ?_
                        refine ty_iconst hx hb (1) dX9_chooses_188 (by decide) (fun x126 h127 => ?_)
                        refine ast_mZ hx hb hE hG hS hU 40 rfl (n := 9) rfl (lo := 0) (hi := 1) rfl rfl rfl t_b125 (by omega) (by omega) (by omega) dX9_chooses_189 (fun H locs hG hS => ?_)
                        have hz9 := hq1 v6_97.toInt.toNat
                        have hy9 := hq0 v6_97.toInt.toNat (by omega)
                        have h137 : (gs (gs g24 138 p1.toInt.toNat v6_97.toInt) 140 v6_97.toInt.toNat x126.toInt) 137 0 = g 137 0 := by rw [gs_c _ _ _ _ (by decide), gs_c _ _ _ _ (by decide), hf25 137 0 (by decide) (by decide) (by decide) (by decide) (by decide)]
                        have hC2 : CH (gs (gs g24 138 p1.toInt.toNat v6_97.toInt) 140 v6_97.toInt.toNat x126.toInt) (g 137 0).toNat (p1.toInt.toNat + 1) := CH_get hC (by omega) (J := v6_97.toInt.toNat) (by omega) (by omega) (by omega) (by omega) (by rw [gs_c _ _ _ _ (by decide), gs_self]; omega) (fun i hi => by rw [gs_c _ _ _ _ (by decide), gs_j _ _ _ _ hi]; exact hq0 i hi) (by rw [gs_self]; omega) (fun i hi => by rw [gs_j _ _ _ _ hi, gs_c _ _ _ _ (by decide)]; exact hq1 i)
                        refine lv_aload_n hx hb dX9_chooses_190 rfl (lv_at hl 3 rfl) ?_
                        refine lv_iload_n hx hb dX9_chooses_191 rfl (lv_at hl 4 rfl) ?_
                        have e128 : (gs (gs g24 138 p1.toInt.toNat v6_97.toInt) 140 v6_97.toInt.toNat x126.toInt) 137 0 = g24 137 0 := by simp [gs]
                        have e129 : (gs (gs g24 138 p1.toInt.toNat v6_97.toInt) 140 v6_97.toInt.toNat x126.toInt) 137 0 = g24 137 0 := by simp [gs]
                        refine cI (va_runV (C := RX9) (As := [.int p1]) (rest := []) ⟨hx, hb, hml, hown, hA⟩ (k_X9_isShort l dC dI dA sz X Γ hU (gs (gs g24 138 p1.toInt.toNat v6_97.toInt) 140 v6_97.toInt.toNat x126.toInt) h0 t_h0 p1   (by omega) (by rw [h137]; exact hC2)) ⟨callB_of 1 hA (al_A wd_5_160) rfl rfl rfl (hA _ wd_1_7) (hA _ wd_5_157) (by decide +kernel) ⟨Nat.le_trans (Nat.le_of_ble_eq_true rfl) (Nat.le_add_left 3 F), Nat.le_trans (Nat.le_of_ble_eq_true rfl) (Nat.le_add_left 100 L)⟩, hA _ wd_5_159, hA _ ws_51⟩ ⟨bl, recv_X9 hE hG t_h0, fun U hU9 hW9 => ⟨rfl, by rw [hU9]; exact hG, hE.go hS hU9 hW9⟩⟩ rfl rfl hl.1 rfl (lv_room (Nat.le_of_ble_eq_true rfl)) dX9_chooses_192 ⟨Nat.zero_le _, Nat.zero_le _⟩) hS (fun x132 u130 H locs w131 hG hS => ?_)
                        obtain ⟨eu133, w131⟩ := w131
                        rw [eu133] at hG
                        refine ty_if_eq (tgt := 219) hx hb dX9_chooses_195 (by decide) (fun c134 => ?_) (fun c134 => ?_)
                        · skip
                          refine lv_aload_n hx hb dX9_chooses_219 rfl (lv_at hl 3 rfl) ?_
                          refine get_X9_40 hx hb hA hown hE hG t_h0 wd_4_170 dX9_chooses_220 (fun b135 (t_b135 : ty Γ b135 140) => ?_)
                          refine lv_iload hx hb dX9_chooses_223 (lv_at hl 1 rfl) ?_
                          refine ty_iconst hx hb (0) dX9_chooses_225 (by decide) (fun x136 h137 => ?_)
                          refine ast_mZ hx hb hE hG hS hU 40 rfl (n := 9) rfl (lo := 0) (hi := 1) rfl rfl rfl t_b135 (by omega) (by omega) (by omega) dX9_chooses_226 (fun H locs hG hS => ?_)
                          obtain ⟨x138, h139⟩ : ∃ y : Int32, y = v6_97 + Int32.ofInt (1) := ⟨_, rfl⟩
                          try have h140 : x138.toInt = v6_97.toInt + (1) := ty_inc h139 (by decide) (by omega) (by omega)
                          refine lv_iinc (v := x138) (lv' := [(6, .int x138), (7, .int x121), (5, .int x7), (0, .ref h0), (1, .int p1), (2, .int p2), (3, .int p3), (4, .int p4)]) hx hb dX9_chooses_227 hl (k := 1) rfl h139.symm (by decide) rfl (fun ls hl => ?_)
                          refine lv_goto (tgt := 97) hx hb dX9_chooses_230 (by decide) ?_
                          have e141 : (gs (gs (gs g24 138 p1.toInt.toNat v6_97.toInt) 140 v6_97.toInt.toNat x126.toInt) 140 v6_97.toInt.toNat x136.toInt) 137 0 = g24 137 0 := by simp [gs]
                          exact ih_97 x138 (gs (gs (gs g24 138 p1.toInt.toNat v6_97.toInt) 140 v6_97.toInt.toNat x126.toInt) 140 v6_97.toInt.toNat x136.toInt) _ _ ls (by omega) (by omega) (fun c j h138 h139 h140 h141 h142 => by rw [gs_c _ _ _ _ h140, gs_c _ _ _ _ h140, gs_c _ _ _ _ h138, hf25 c j h138 h139 h140 h141 h142]) (fun i hi => by rw [gs_c _ _ _ _ (by decide), gs_c _ _ _ _ (by decide), gs_j _ _ _ _ hi]; exact hq0 i hi) (fun i => by by_cases hi : i = v6_97.toInt.toNat; (rw [hi, gs_self, ← hq1 v6_97.toInt.toNat]; omega); (rw [gs_j _ _ _ _ hi]; rw [gs_j _ _ _ _ hi, gs_c _ _ _ _ (by decide)]; exact hq1 i)) (BG_cg (by rw [gs_c _ _ _ _ (by decide), gs_c _ _ _ _ (by decide), gs_c _ _ _ _ (by decide)]) (fun i => by rw [gs_c _ _ _ _ (by decide), gs_c _ _ _ _ (by decide), gs_c _ _ _ _ (by decide)]) hq2) (fun h => by rw [gs_c _ _ _ _ (by decide), gs_c _ _ _ _ (by decide), gs_c _ _ _ _ (by decide)]; exact hq3 h) hG hS (lv_sub hl [0, 2, 3, 4, 5, 6, 7] rfl)
                        · skip
                          refine lv_aload_n hx hb dX9_chooses_198 rfl (lv_at hl 3 rfl) ?_
                          refine lv_iload_n hx hb dX9_chooses_199 rfl (lv_at hl 4 rfl) ?_
                          have e142 : (gs (gs g24 138 p1.toInt.toNat v6_97.toInt) 140 v6_97.toInt.toNat x126.toInt) 137 0 = g24 137 0 := by simp [gs]
                          refine cI (va_runV (C := RX9) (As := [.int p1]) (rest := []) ⟨hx, hb, hml, hown, hA⟩ (k_X9_isEven l dC dI dA sz X Γ hU (gs (gs g24 138 p1.toInt.toNat v6_97.toInt) 140 v6_97.toInt.toNat x126.toInt) h0 t_h0 p1   (by omega)) ⟨callB_of 1 hA (al_A wd_5_164) rfl rfl rfl (hA _ wd_1_7) (hA _ wd_5_161) (by decide +kernel) ⟨Nat.le_trans (Nat.le_of_ble_eq_true rfl) (Nat.le_add_left 3 F), Nat.le_trans (Nat.le_of_ble_eq_true rfl) (Nat.le_add_left 100 L)⟩, hA _ wd_5_163, hA _ ws_52⟩ ⟨bl, recv_X9 hE hG t_h0, fun U hU9 hW9 => ⟨rfl, by rw [hU9]; exact hG, hE.go hS hU9 hW9⟩⟩ rfl rfl hl.1 rfl (lv_room (Nat.le_of_ble_eq_true rfl)) dX9_chooses_200 ⟨Nat.zero_le _, Nat.zero_le _⟩) hS (fun x145 u143 H locs w144 hG hS => ?_)
                          obtain ⟨eu146, w144⟩ := w144
                          rw [eu146] at hG
                          refine ty_if_eq (tgt := 219) hx hb dX9_chooses_203 (by decide) (fun c147 => ?_) (fun c147 => ?_)
                          · skip
                            refine lv_aload_n hx hb dX9_chooses_219 rfl (lv_at hl 3 rfl) ?_
                            refine get_X9_40 hx hb hA hown hE hG t_h0 wd_4_170 dX9_chooses_220 (fun b148 (t_b148 : ty Γ b148 140) => ?_)
                            refine lv_iload hx hb dX9_chooses_223 (lv_at hl 1 rfl) ?_
                            refine ty_iconst hx hb (0) dX9_chooses_225 (by decide) (fun x149 h150 => ?_)
                            refine ast_mZ hx hb hE hG hS hU 40 rfl (n := 9) rfl (lo := 0) (hi := 1) rfl rfl rfl t_b148 (by omega) (by omega) (by omega) dX9_chooses_226 (fun H locs hG hS => ?_)
                            obtain ⟨x151, h152⟩ : ∃ y : Int32, y = v6_97 + Int32.ofInt (1) := ⟨_, rfl⟩
                            try have h153 : x151.toInt = v6_97.toInt + (1) := ty_inc h152 (by decide) (by omega) (by omega)
                            refine lv_iinc (v := x151) (lv' := [(6, .int x151), (7, .int x121), (5, .int x7), (0, .ref h0), (1, .int p1), (2, .int p2), (3, .int p3), (4, .int p4)]) hx hb dX9_chooses_227 hl (k := 1) rfl h152.symm (by decide) rfl (fun ls hl => ?_)
                            refine lv_goto (tgt := 97) hx hb dX9_chooses_230 (by decide) ?_
                            have e154 : (gs (gs (gs g24 138 p1.toInt.toNat v6_97.toInt) 140 v6_97.toInt.toNat x126.toInt) 140 v6_97.toInt.toNat x149.toInt) 137 0 = g24 137 0 := by simp [gs]
                            exact ih_97 x151 (gs (gs (gs g24 138 p1.toInt.toNat v6_97.toInt) 140 v6_97.toInt.toNat x126.toInt) 140 v6_97.toInt.toNat x149.toInt) _ _ ls (by omega) (by omega) (fun c j h138 h139 h140 h141 h142 => by rw [gs_c _ _ _ _ h140, gs_c _ _ _ _ h140, gs_c _ _ _ _ h138, hf25 c j h138 h139 h140 h141 h142]) (fun i hi => by rw [gs_c _ _ _ _ (by decide), gs_c _ _ _ _ (by decide), gs_j _ _ _ _ hi]; exact hq0 i hi) (fun i => by by_cases hi : i = v6_97.toInt.toNat; (rw [hi, gs_self, ← hq1 v6_97.toInt.toNat]; omega); (rw [gs_j _ _ _ _ hi]; rw [gs_j _ _ _ _ hi, gs_c _ _ _ _ (by decide)]; exact hq1 i)) (BG_cg (by rw [gs_c _ _ _ _ (by decide), gs_c _ _ _ _ (by decide), gs_c _ _ _ _ (by decide)]) (fun i => by rw [gs_c _ _ _ _ (by decide), gs_c _ _ _ _ (by decide), gs_c _ _ _ _ (by decide)]) hq2) (fun h => by rw [gs_c _ _ _ _ (by decide), gs_c _ _ _ _ (by decide), gs_c _ _ _ _ (by decide)]; exact hq3 h) hG hS (lv_sub hl [0, 2, 3, 4, 5, 6, 7] rfl)
                          · skip
                            refine lv_aload_n hx hb dX9_chooses_206 rfl (lv_at hl 3 rfl) ?_
                            refine lv_iload_n hx hb dX9_chooses_207 rfl (lv_at hl 4 rfl) ?_
                            refine ty_iconst hx hb (1) dX9_chooses_208 (by decide) (fun x155 h156 => ?_)
                            refine ty_iadd hx hb dX9_chooses_209 (fun x157 h158 => ?_)
                            try have h159 : x157.toInt = p1.toInt + x155.toInt := ty_add h158 (by omega) (by omega)
                            refine lv_iload_n hx hb dX9_chooses_210 rfl (lv_at hl 5 rfl) ?_
                            refine ty_iconst hx hb (1) dX9_chooses_211 (by decide) (fun x160 h161 => ?_)
                            refine ty_iadd hx hb dX9_chooses_212 (fun x162 h163 => ?_)
                            try have h164 : x162.toInt = p2.toInt + x160.toInt := ty_add h163 (by omega) (by omega)
                            refine lv_iload_n hx hb dX9_chooses_213 rfl (lv_at hl 6 rfl) ?_
                            refine lv_iload hx hb dX9_chooses_214 (lv_at hl 7 rfl) ?_
                            have e165 : (gs (gs g24 138 p1.toInt.toNat v6_97.toInt) 140 v6_97.toInt.toNat x126.toInt) 137 0 = g24 137 0 := by simp [gs]
                            have e166 : (gs (gs g24 138 p1.toInt.toNat v6_97.toInt) 140 v6_97.toInt.toNat x126.toInt) 137 0 = g24 137 0 := by simp [gs]
                            have e167 : (gs (gs g24 138 p1.toInt.toNat v6_97.toInt) 140 v6_97.toInt.toNat x126.toInt) 137 0 = g24 137 0 := by simp [gs]
                            refine cV (va_runV (C := RX9) (As := [.int x157, .int x162, .int p3, .int p4]) (rest := []) ⟨hx, hb, hml, hown, hA⟩ (IH l dC dI dA sz X Γ hU (gs (gs g24 138 p1.toInt.toNat v6_97.toInt) 140 v6_97.toInt.toNat x126.toInt) h0 t_h0 x157 x162 p3 p4   (by omega) (by rw [h137, show x157.toInt.toNat = p1.toInt.toNat + 1 by omega]; exact hC2) (by rw [h137]; exact BG_cg (by rw [gs_c _ _ _ _ (by decide), gs_c _ _ _ _ (by decide)]) (fun i => by rw [gs_c _ _ _ _ (by decide), gs_c _ _ _ _ (by decide)]) hq2)) ⟨callB_of 4 hA (al_A wd_5_152) rfl rfl rfl (hA _ wd_1_7) (hA _ wd_5_149) (by decide +kernel) ⟨Nat.add_le_add_left (by decide) F, show 8 + (8 + 11) + L ≤ L + 100 by omega⟩, hA _ wd_5_151, hA _ ws_49⟩ ⟨bl, recv_X9 hE hG t_h0, fun U hU9 hW9 => ⟨rfl, by rw [hU9]; exact hG, hE.go hS hU9 hW9⟩⟩ rfl rfl hl.1 rfl (lv_room (Nat.le_of_ble_eq_true rfl)) dX9_chooses_216 ⟨Nat.zero_le _, Nat.zero_le _⟩) hS (fun u168 H locs w169 hG hS => ?_)
                            obtain ⟨hf174, hq170, hq171, hq172, hq173⟩ := w169
                            refine lv_aload_n hx hb dX9_chooses_219 rfl (lv_at hl 3 rfl) ?_
                            refine get_X9_40 hx hb hA hown hE hG t_h0 wd_4_170 dX9_chooses_220 (fun b175 (t_b175 : ty Γ b175 140) => ?_)
                            refine lv_iload hx hb dX9_chooses_223 (lv_at hl 1 rfl) ?_
                            refine ty_iconst hx hb (0) dX9_chooses_225 (by decide) (fun x176 h177 => ?_)
                            refine ast_mZ hx hb hE hG hS hU 40 rfl (n := 9) rfl (lo := 0) (hi := 1) rfl rfl rfl t_b175 (by omega) (by omega) (by omega) dX9_chooses_226 (fun H locs hG hS => ?_)
                            obtain ⟨x178, h179⟩ : ∃ y : Int32, y = v6_97 + Int32.ofInt (1) := ⟨_, rfl⟩
                            try have h180 : x178.toInt = v6_97.toInt + (1) := ty_inc h179 (by decide) (by omega) (by omega)
                            refine lv_iinc (v := x178) (lv' := [(6, .int x178), (7, .int x121), (5, .int x7), (0, .ref h0), (1, .int p1), (2, .int p2), (3, .int p3), (4, .int p4)]) hx hb dX9_chooses_227 hl (k := 1) rfl h179.symm (by decide) rfl (fun ls hl => ?_)
                            refine lv_goto (tgt := 97) hx hb dX9_chooses_230 (by decide) ?_
                            have hk181 : u168 137 0 = (gs (gs g24 138 p1.toInt.toNat v6_97.toInt) 140 v6_97.toInt.toNat x126.toInt) 137 0 := hf174 137 0 (by decide) (by decide) (by decide) (by decide) (by decide)
                            have hk181 : u168 137 0 = g24 137 0 := by rw [hk181]; simp [gs]
                            have e182 : (gs u168 140 v6_97.toInt.toNat x176.toInt) 137 0 = u168 137 0 := by simp [gs]
                            exact ih_97 x178 (gs u168 140 v6_97.toInt.toNat x176.toInt) _ _ ls (by omega) (by omega) (fun c j h138 h139 h140 h141 h142 => by rw [gs_c _ _ _ _ h140, hf174 c j h138 h139 h140 h141 h142, gs_c _ _ _ _ h140, gs_c _ _ _ _ h138, hf25 c j h138 h139 h140 h141 h142]) (fun i hi => by rw [gs_c _ _ _ _ (by decide), hq170 i, gs_c _ _ _ _ (by decide), gs_j _ _ _ _ hi]; exact hq0 i hi) (fun i => by by_cases hi : i = v6_97.toInt.toNat; (rw [hi, gs_self, ← hq1 v6_97.toInt.toNat]; omega); (rw [gs_j _ _ _ _ hi]; rw [hq171 i, gs_j _ _ _ _ hi, gs_c _ _ _ _ (by decide)]; exact hq1 i)) (BG_cg (by rw [gs_c _ _ _ _ (by decide)]) (fun i => by rw [gs_c _ _ _ _ (by decide)]) (by have h9 := hq172; rw [h137] at h9; exact h9)) (fun h => by rw [gs_c _ _ _ _ (by decide)]; exact hq173 (Or.inl (by rw [gs_c _ _ _ _ (by decide), gs_c _ _ _ _ (by decide)]; exact hq3 h))) hG hS (lv_sub hl [0, 2, 3, 4, 5, 6, 7] rfl)
                      · exfalso; omega
                  · skip
                    refine lv_aload_n hx hb dX9_chooses_128 rfl (lv_at hl 2 rfl) ?_
                    refine get_X9_38 hx hb hA hown hE hG t_h0 wd_4_168 dX9_chooses_129 (fun b183 (t_b183 : ty Γ b183 138) => ?_)
                    refine lv_iload hx hb dX9_chooses_132 (lv_at hl 0 rfl) ?_
                    refine ald_mI hx hb hE hG 38 rfl (n := 9) rfl (lo := -2) (hi := 8) rfl rfl t_b183 (by omega) dX9_chooses_134 (fun j185 x184 h186 h187 h188 => ?_)
                    obtain rfl : j185 = v6_97.toInt.toNat := by omega
                    replace h187 : x184.toInt = g24 138 v6_97.toInt.toNat := h187
                    refine ty_iconst hx hb (-1) dX9_chooses_135 (by decide) (fun x189 h190 => ?_)
                    refine ty_icmp_eq (tgt := 163) hx hb dX9_chooses_136 (by decide) (fun c191 => ?_) (fun c191 => ?_)
                    · skip
                      refine ty_iconst hx hb (0) dX9_chooses_163 (by decide) (fun x192 h193 => ?_)
                      refine lv_istore (lv' := [(7, .int x192), (6, .int v6_97), (5, .int x7), (0, .ref h0), (1, .int p1), (2, .int p2), (3, .int p3), (4, .int p4)]) hx hb dX9_chooses_164 hl (by decide) rfl (fun ls hl => ?_)
                      refine lv_iload hx hb dX9_chooses_166 (lv_at hl 0 rfl) ?_
                      refine ty_if_ne (tgt := 174) hx hb dX9_chooses_168 (by decide) (fun c194 => ?_) (fun c194 => ?_)
                      · exfalso; omega
                      · skip
                        refine lv_goto (tgt := 227) hx hb dX9_chooses_171 (by decide) ?_
                        obtain ⟨x195, h196⟩ : ∃ y : Int32, y = v6_97 + Int32.ofInt (1) := ⟨_, rfl⟩
                        try have h197 : x195.toInt = v6_97.toInt + (1) := ty_inc h196 (by decide) (by omega) (by omega)
                        refine lv_iinc (v := x195) (lv' := [(6, .int x195), (7, .int x192), (5, .int x7), (0, .ref h0), (1, .int p1), (2, .int p2), (3, .int p3), (4, .int p4)]) hx hb dX9_chooses_227 hl (k := 1) rfl h196.symm (by decide) rfl (fun ls hl => ?_)
                        refine lv_goto (tgt := 97) hx hb dX9_chooses_230 (by decide) ?_
                        exact ih_97 x195 g24 _ _ ls (by omega) (by omega) (fun c j h138 h139 h140 h141 h142 => by rw [hf25 c j h138 h139 h140 h141 h142]) (hq0) (hq1) (hq2) (hq3) hG hS (lv_sub hl [0, 2, 3, 4, 5, 6, 7] rfl)
                    · skip
                      refine lv_aload_n hx hb dX9_chooses_139 rfl (lv_at hl 2 rfl) ?_
                      refine lv_aload_n hx hb dX9_chooses_140 rfl (lv_at hl 2 rfl) ?_
                      refine get_X9_36 hx hb hA hown hE hG t_h0 wd_4_166 dX9_chooses_141 (fun b198 (t_b198 : ty Γ b198 136) => ?_)
                      refine lv_iload hx hb dX9_chooses_144 (lv_at hl 0 rfl) ?_
                      refine ald_mI hx hb hE hG 36 rfl (n := 9) rfl (lo := 0) (hi := 199) rfl rfl t_b198 (by omega) dX9_chooses_146 (fun j200 x199 h201 h202 h203 => ?_)
                      obtain rfl : j200 = v6_97.toInt.toNat := by omega
                      replace h202 : x199.toInt = g24 136 v6_97.toInt.toNat := h202
                      refine lv_aload_n hx hb dX9_chooses_147 rfl (lv_at hl 2 rfl) ?_
                      refine get_X9_36 hx hb hA hown hE hG t_h0 wd_4_166 dX9_chooses_148 (fun b204 (t_b204 : ty Γ b204 136) => ?_)
                      refine lv_iload_n hx hb dX9_chooses_151 rfl (lv_at hl 3 rfl) ?_
                      refine ald_mI hx hb hE hG 36 rfl (n := 9) rfl (lo := 0) (hi := 199) rfl rfl t_b204 (by omega) dX9_chooses_152 (fun j206 x205 h207 h208 h209 => ?_)
                      obtain rfl : j206 = p1.toInt.toNat := by omega
                      replace h208 : x205.toInt = g24 136 p1.toInt.toNat := h208
                      refine cI (va_runV (C := RX9) (As := [.int x199, .int x205]) (rest := []) ⟨hx, hb, hml, hown, hA⟩ (k_X9_meets l dC dI dA sz X Γ hU g24 h0 t_h0 x199 x205   (by omega)) ⟨callB_of 2 hA (al_A wd_5_156) rfl rfl rfl (hA _ wd_1_7) (hA _ wd_5_153) (by decide +kernel) ⟨Nat.le_trans (Nat.le_of_ble_eq_true rfl) (Nat.le_add_left 3 F), Nat.le_trans (Nat.le_of_ble_eq_true rfl) (Nat.le_add_left 100 L)⟩, hA _ wd_5_155, hA _ ws_50⟩ ⟨bl, recv_X9 hE hG t_h0, fun U hU9 hW9 => ⟨rfl, by rw [hU9]; exact hG, hE.go hS hU9 hW9⟩⟩ rfl rfl hl.1 rfl (lv_room (Nat.le_of_ble_eq_true rfl)) dX9_chooses_153 ⟨Nat.zero_le _, Nat.zero_le _⟩) hS (fun x212 u210 H locs w211 hG hS => ?_)
                      obtain ⟨eu213, w211⟩ := w211
                      rw [eu213] at hG
                      refine ty_if_eq (tgt := 163) hx hb dX9_chooses_156 (by decide) (fun c214 => ?_) (fun c214 => ?_)
                      · skip
                        refine ty_iconst hx hb (0) dX9_chooses_163 (by decide) (fun x215 h216 => ?_)
                        refine lv_istore (lv' := [(7, .int x215), (6, .int v6_97), (5, .int x7), (0, .ref h0), (1, .int p1), (2, .int p2), (3, .int p3), (4, .int p4)]) hx hb dX9_chooses_164 hl (by decide) rfl (fun ls hl => ?_)
                        refine lv_iload hx hb dX9_chooses_166 (lv_at hl 0 rfl) ?_
                        refine ty_if_ne (tgt := 174) hx hb dX9_chooses_168 (by decide) (fun c217 => ?_) (fun c217 => ?_)
                        · exfalso; omega
                        · skip
                          refine lv_goto (tgt := 227) hx hb dX9_chooses_171 (by decide) ?_
                          obtain ⟨x218, h219⟩ : ∃ y : Int32, y = v6_97 + Int32.ofInt (1) := ⟨_, rfl⟩
                          try have h220 : x218.toInt = v6_97.toInt + (1) := ty_inc h219 (by decide) (by omega) (by omega)
                          refine lv_iinc (v := x218) (lv' := [(6, .int x218), (7, .int x215), (5, .int x7), (0, .ref h0), (1, .int p1), (2, .int p2), (3, .int p3), (4, .int p4)]) hx hb dX9_chooses_227 hl (k := 1) rfl h219.symm (by decide) rfl (fun ls hl => ?_)
                          refine lv_goto (tgt := 97) hx hb dX9_chooses_230 (by decide) ?_
                          exact ih_97 x218 g24 _ _ ls (by omega) (by omega) (fun c j h138 h139 h140 h141 h142 => by rw [hf25 c j h138 h139 h140 h141 h142]) (hq0) (hq1) (hq2) (hq3) hG hS (lv_sub hl [0, 2, 3, 4, 5, 6, 7] rfl)
                      · skip
                        refine ty_iconst hx hb (1) dX9_chooses_159 (by decide) (fun x221 h222 => ?_)
                        refine lv_goto (tgt := 164) hx hb dX9_chooses_160 (by decide) ?_
                        refine lv_istore (lv' := [(7, .int x221), (6, .int v6_97), (5, .int x7), (0, .ref h0), (1, .int p1), (2, .int p2), (3, .int p3), (4, .int p4)]) hx hb dX9_chooses_164 hl (by decide) rfl (fun ls hl => ?_)
                        refine lv_iload hx hb dX9_chooses_166 (lv_at hl 0 rfl) ?_
                        refine ty_if_ne (tgt := 174) hx hb dX9_chooses_168 (by decide) (fun c223 => ?_) (fun c223 => ?_)
                        · skip
                          refine lv_aload_n hx hb dX9_chooses_174 rfl (lv_at hl 3 rfl) ?_
                          refine get_X9_38 hx hb hA hown hE hG t_h0 wd_4_168 dX9_chooses_175 (fun b224 (t_b224 : ty Γ b224 138) => ?_)
                          refine lv_iload_n hx hb dX9_chooses_178 rfl (lv_at hl 4 rfl) ?_
                          refine lv_iload hx hb dX9_chooses_179 (lv_at hl 1 rfl) ?_
                          refine ast_mI hx hb hE hG hS hU 38 rfl (n := 9) rfl (lo := -2) (hi := 8) rfl rfl rfl t_b224 (by omega) (by omega) dX9_chooses_181 (fun H locs hG hS => ?_)
                          refine lv_aload_n hx hb dX9_chooses_182 rfl (lv_at hl 3 rfl) ?_
                          refine get_X9_40 hx hb hA hown hE hG t_h0 wd_4_170 dX9_chooses_183 (fun b225 (t_b225 : ty Γ b225 140) => ?_)
                          refine lv_iload hx hb dX9_chooses_186 (lv_at hl 1 rfl) ?_
                          refine ty_iconst hx hb (1) dX9_chooses_188 (by decide) (fun x226 h227 => ?_)
                          refine ast_mZ hx hb hE hG hS hU 40 rfl (n := 9) rfl (lo := 0) (hi := 1) rfl rfl rfl t_b225 (by omega) (by omega) (by omega) dX9_chooses_189 (fun H locs hG hS => ?_)
                          have hz9 := hq1 v6_97.toInt.toNat
                          have hy9 := hq0 v6_97.toInt.toNat (by omega)
                          have h137 : (gs (gs g24 138 p1.toInt.toNat v6_97.toInt) 140 v6_97.toInt.toNat x226.toInt) 137 0 = g 137 0 := by rw [gs_c _ _ _ _ (by decide), gs_c _ _ _ _ (by decide), hf25 137 0 (by decide) (by decide) (by decide) (by decide) (by decide)]
                          have hC2 : CH (gs (gs g24 138 p1.toInt.toNat v6_97.toInt) 140 v6_97.toInt.toNat x226.toInt) (g 137 0).toNat (p1.toInt.toNat + 1) := CH_get hC (by omega) (J := v6_97.toInt.toNat) (by omega) (by omega) (by omega) (by omega) (by rw [gs_c _ _ _ _ (by decide), gs_self]; omega) (fun i hi => by rw [gs_c _ _ _ _ (by decide), gs_j _ _ _ _ hi]; exact hq0 i hi) (by rw [gs_self]; omega) (fun i hi => by rw [gs_j _ _ _ _ hi, gs_c _ _ _ _ (by decide)]; exact hq1 i)
                          refine lv_aload_n hx hb dX9_chooses_190 rfl (lv_at hl 3 rfl) ?_
                          refine lv_iload_n hx hb dX9_chooses_191 rfl (lv_at hl 4 rfl) ?_
                          have e228 : (gs (gs g24 138 p1.toInt.toNat v6_97.toInt) 140 v6_97.toInt.toNat x226.toInt) 137 0 = g24 137 0 := by simp [gs]
                          have e229 : (gs (gs g24 138 p1.toInt.toNat v6_97.toInt) 140 v6_97.toInt.toNat x226.toInt) 137 0 = g24 137 0 := by simp [gs]
                          refine cI (va_runV (C := RX9) (As := [.int p1]) (rest := []) ⟨hx, hb, hml, hown, hA⟩ (k_X9_isShort l dC dI dA sz X Γ hU (gs (gs g24 138 p1.toInt.toNat v6_97.toInt) 140 v6_97.toInt.toNat x226.toInt) h0 t_h0 p1   (by omega) (by rw [h137]; exact hC2)) ⟨callB_of 1 hA (al_A wd_5_160) rfl rfl rfl (hA _ wd_1_7) (hA _ wd_5_157) (by decide +kernel) ⟨Nat.le_trans (Nat.le_of_ble_eq_true rfl) (Nat.le_add_left 3 F), Nat.le_trans (Nat.le_of_ble_eq_true rfl) (Nat.le_add_left 100 L)⟩, hA _ wd_5_159, hA _ ws_51⟩ ⟨bl, recv_X9 hE hG t_h0, fun U hU9 hW9 => ⟨rfl, by rw [hU9]; exact hG, hE.go hS hU9 hW9⟩⟩ rfl rfl hl.1 rfl (lv_room (Nat.le_of_ble_eq_true rfl)) dX9_chooses_192 ⟨Nat.zero_le _, Nat.zero_le _⟩) hS (fun x232 u230 H locs w231 hG hS => ?_)
                          obtain ⟨eu233, w231⟩ := w231
                          rw [eu233] at hG
                          refine ty_if_eq (tgt := 219) hx hb dX9_chooses_195 (by decide) (fun c234 => ?_) (fun c234 => ?_)
                          · skip
                            refine lv_aload_n hx hb dX9_chooses_219 rfl (lv_at hl 3 rfl) ?_
                            refine get_X9_40 hx hb hA hown hE hG t_h0 wd_4_170 dX9_chooses_220 (fun b235 (t_b235 : ty Γ b235 140) => ?_)
                            refine lv_iload hx hb dX9_chooses_223 (lv_at hl 1 rfl) ?_
                            refine ty_iconst hx hb (0) dX9_chooses_225 (by decide) (fun x236 h237 => ?_)
                            refine ast_mZ hx hb hE hG hS hU 40 rfl (n := 9) rfl (lo := 0) (hi := 1) rfl rfl rfl t_b235 (by omega) (by omega) (by omega) dX9_chooses_226 (fun H locs hG hS => ?_)
                            obtain ⟨x238, h239⟩ : ∃ y : Int32, y = v6_97 + Int32.ofInt (1) := ⟨_, rfl⟩
                            try have h240 : x238.toInt = v6_97.toInt + (1) := ty_inc h239 (by decide) (by omega) (by omega)
                            refine lv_iinc (v := x238) (lv' := [(6, .int x238), (7, .int x221), (5, .int x7), (0, .ref h0), (1, .int p1), (2, .int p2), (3, .int p3), (4, .int p4)]) hx hb dX9_chooses_227 hl (k := 1) rfl h239.symm (by decide) rfl (fun ls hl => ?_)
                            refine lv_goto (tgt := 97) hx hb dX9_chooses_230 (by decide) ?_
                            have e241 : (gs (gs (gs g24 138 p1.toInt.toNat v6_97.toInt) 140 v6_97.toInt.toNat x226.toInt) 140 v6_97.toInt.toNat x236.toInt) 137 0 = g24 137 0 := by simp [gs]
                            exact ih_97 x238 (gs (gs (gs g24 138 p1.toInt.toNat v6_97.toInt) 140 v6_97.toInt.toNat x226.toInt) 140 v6_97.toInt.toNat x236.toInt) _ _ ls (by omega) (by omega) (fun c j h138 h139 h140 h141 h142 => by rw [gs_c _ _ _ _ h140, gs_c _ _ _ _ h140, gs_c _ _ _ _ h138, hf25 c j h138 h139 h140 h141 h142]) (fun i hi => by rw [gs_c _ _ _ _ (by decide), gs_c _ _ _ _ (by decide), gs_j _ _ _ _ hi]; exact hq0 i hi) (fun i => by by_cases hi : i = v6_97.toInt.toNat; (rw [hi, gs_self, ← hq1 v6_97.toInt.toNat]; omega); (rw [gs_j _ _ _ _ hi]; rw [gs_j _ _ _ _ hi, gs_c _ _ _ _ (by decide)]; exact hq1 i)) (BG_cg (by rw [gs_c _ _ _ _ (by decide), gs_c _ _ _ _ (by decide), gs_c _ _ _ _ (by decide)]) (fun i => by rw [gs_c _ _ _ _ (by decide), gs_c _ _ _ _ (by decide), gs_c _ _ _ _ (by decide)]) hq2) (fun h => by rw [gs_c _ _ _ _ (by decide), gs_c _ _ _ _ (by decide), gs_c _ _ _ _ (by decide)]; exact hq3 h) hG hS (lv_sub hl [0, 2, 3, 4, 5, 6, 7] rfl)
                          · skip
                            refine lv_aload_n hx hb dX9_chooses_198 rfl (lv_at hl 3 rfl) ?_
                            refine lv_iload_n hx hb dX9_chooses_199 rfl (lv_at hl 4 rfl) ?_
                            have e242 : (gs (gs g24 138 p1.toInt.toNat v6_97.toInt) 140 v6_97.toInt.toNat x226.toInt) 137 0 = g24 137 0 := by simp [gs]
                            refine cI (va_runV (C := RX9) (As := [.int p1]) (rest := []) ⟨hx, hb, hml, hown, hA⟩ (k_X9_isEven l dC dI dA sz X Γ hU (gs (gs g24 138 p1.toInt.toNat v6_97.toInt) 140 v6_97.toInt.toNat x226.toInt) h0 t_h0 p1   (by omega)) ⟨callB_of 1 hA (al_A wd_5_164) rfl rfl rfl (hA _ wd_1_7) (hA _ wd_5_161) (by decide +kernel) ⟨Nat.le_trans (Nat.le_of_ble_eq_true rfl) (Nat.le_add_left 3 F), Nat.le_trans (Nat.le_of_ble_eq_true rfl) (Nat.le_add_left 100 L)⟩, hA _ wd_5_163, hA _ ws_52⟩ ⟨bl, recv_X9 hE hG t_h0, fun U hU9 hW9 => ⟨rfl, by rw [hU9]; exact hG, hE.go hS hU9 hW9⟩⟩ rfl rfl hl.1 rfl (lv_room (Nat.le_of_ble_eq_true rfl)) dX9_chooses_200 ⟨Nat.zero_le _, Nat.zero_le _⟩) hS (fun x245 u243 H locs w244 hG hS => ?_)
                            obtain ⟨eu246, w244⟩ := w244
                            rw [eu246] at hG
                            refine ty_if_eq (tgt := 219) hx hb dX9_chooses_203 (by decide) (fun c247 => ?_) (fun c247 => ?_)
                            · skip
                              refine lv_aload_n hx hb dX9_chooses_219 rfl (lv_at hl 3 rfl) ?_
                              refine get_X9_40 hx hb hA hown hE hG t_h0 wd_4_170 dX9_chooses_220 (fun b248 (t_b248 : ty Γ b248 140) => ?_)
                              refine lv_iload hx hb dX9_chooses_223 (lv_at hl 1 rfl) ?_
                              refine ty_iconst hx hb (0) dX9_chooses_225 (by decide) (fun x249 h250 => ?_)
                              refine ast_mZ hx hb hE hG hS hU 40 rfl (n := 9) rfl (lo := 0) (hi := 1) rfl rfl rfl t_b248 (by omega) (by omega) (by omega) dX9_chooses_226 (fun H locs hG hS => ?_)
                              obtain ⟨x251, h252⟩ : ∃ y : Int32, y = v6_97 + Int32.ofInt (1) := ⟨_, rfl⟩
                              try have h253 : x251.toInt = v6_97.toInt + (1) := ty_inc h252 (by decide) (by omega) (by omega)
                              refine lv_iinc (v := x251) (lv' := [(6, .int x251), (7, .int x221), (5, .int x7), (0, .ref h0), (1, .int p1), (2, .int p2), (3, .int p3), (4, .int p4)]) hx hb dX9_chooses_227 hl (k := 1) rfl h252.symm (by decide) rfl (fun ls hl => ?_)
                              refine lv_goto (tgt := 97) hx hb dX9_chooses_230 (by decide) ?_
                              have e254 : (gs (gs (gs g24 138 p1.toInt.toNat v6_97.toInt) 140 v6_97.toInt.toNat x226.toInt) 140 v6_97.toInt.toNat x249.toInt) 137 0 = g24 137 0 := by simp [gs]
                              exact ih_97 x251 (gs (gs (gs g24 138 p1.toInt.toNat v6_97.toInt) 140 v6_97.toInt.toNat x226.toInt) 140 v6_97.toInt.toNat x249.toInt) _ _ ls (by omega) (by omega) (fun c j h138 h139 h140 h141 h142 => by rw [gs_c _ _ _ _ h140, gs_c _ _ _ _ h140, gs_c _ _ _ _ h138, hf25 c j h138 h139 h140 h141 h142]) (fun i hi => by rw [gs_c _ _ _ _ (by decide), gs_c _ _ _ _ (by decide), gs_j _ _ _ _ hi]; exact hq0 i hi) (fun i => by by_cases hi : i = v6_97.toInt.toNat; (rw [hi, gs_self, ← hq1 v6_97.toInt.toNat]; omega); (rw [gs_j _ _ _ _ hi]; rw [gs_j _ _ _ _ hi, gs_c _ _ _ _ (by decide)]; exact hq1 i)) (BG_cg (by rw [gs_c _ _ _ _ (by decide), gs_c _ _ _ _ (by decide), gs_c _ _ _ _ (by decide)]) (fun i => by rw [gs_c _ _ _ _ (by decide), gs_c _ _ _ _ (by decide), gs_c _ _ _ _ (by decide)]) hq2) (fun h => by rw [gs_c _ _ _ _ (by decide), gs_c _ _ _ _ (by decide), gs_c _ _ _ _ (by decide)]; exact hq3 h) hG hS (lv_sub hl [0, 2, 3, 4, 5, 6, 7] rfl)
                            · skip
                              refine lv_aload_n hx hb dX9_chooses_206 rfl (lv_at hl 3 rfl) ?_
                              refine lv_iload_n hx hb dX9_chooses_207 rfl (lv_at hl 4 rfl) ?_
                              refine ty_iconst hx hb (1) dX9_chooses_208 (by decide) (fun x255 h256 => ?_)
                              refine ty_iadd hx hb dX9_chooses_209 (fun x257 h258 => ?_)
                              try have h259 : x257.toInt = p1.toInt + x255.toInt := ty_add h258 (by omega) (by omega)
                              refine lv_iload_n hx hb dX9_chooses_210 rfl (lv_at hl 5 rfl) ?_
                              refine ty_iconst hx hb (1) dX9_chooses_211 (by decide) (fun x260 h261 => ?_)
                              refine ty_iadd hx hb dX9_chooses_212 (fun x262 h263 => ?_)
                              try have h264 : x262.toInt = p2.toInt + x260.toInt := ty_add h263 (by omega) (by omega)
                              refine lv_iload_n hx hb dX9_chooses_213 rfl (lv_at hl 6 rfl) ?_
                              refine lv_iload hx hb dX9_chooses_214 (lv_at hl 7 rfl) ?_
                              have e265 : (gs (gs g24 138 p1.toInt.toNat v6_97.toInt) 140 v6_97.toInt.toNat x226.toInt) 137 0 = g24 137 0 := by simp [gs]
                              have e266 : (gs (gs g24 138 p1.toInt.toNat v6_97.toInt) 140 v6_97.toInt.toNat x226.toInt) 137 0 = g24 137 0 := by simp [gs]
                              have e267 : (gs (gs g24 138 p1.toInt.toNat v6_97.toInt) 140 v6_97.toInt.toNat x226.toInt) 137 0 = g24 137 0 := by simp [gs]
                              refine cV (va_runV (C := RX9) (As := [.int x257, .int x262, .int p3, .int p4]) (rest := []) ⟨hx, hb, hml, hown, hA⟩ (IH l dC dI dA sz X Γ hU (gs (gs g24 138 p1.toInt.toNat v6_97.toInt) 140 v6_97.toInt.toNat x226.toInt) h0 t_h0 x257 x262 p3 p4   (by omega) (by rw [h137, show x257.toInt.toNat = p1.toInt.toNat + 1 by omega]; exact hC2) (by rw [h137]; exact BG_cg (by rw [gs_c _ _ _ _ (by decide), gs_c _ _ _ _ (by decide)]) (fun i => by rw [gs_c _ _ _ _ (by decide), gs_c _ _ _ _ (by decide)]) hq2)) ⟨callB_of 4 hA (al_A wd_5_152) rfl rfl rfl (hA _ wd_1_7) (hA _ wd_5_149) (by decide +kernel) ⟨Nat.add_le_add_left (by decide) F, show 8 + (8 + 11) + L ≤ L + 100 by omega⟩, hA _ wd_5_151, hA _ ws_49⟩ ⟨bl, recv_X9 hE hG t_h0, fun U hU9 hW9 => ⟨rfl, by rw [hU9]; exact hG, hE.go hS hU9 hW9⟩⟩ rfl rfl hl.1 rfl (lv_room (Nat.le_of_ble_eq_true rfl)) dX9_chooses_216 ⟨Nat.zero_le _, Nat.zero_le _⟩) hS (fun u268 H locs w269 hG hS => ?_)
                              obtain ⟨hf274, hq270, hq271, hq272, hq273⟩ := w269
                              refine lv_aload_n hx hb dX9_chooses_219 rfl (lv_at hl 3 rfl) ?_
                              refine get_X9_40 hx hb hA hown hE hG t_h0 wd_4_170 dX9_chooses_220 (fun b275 (t_b275 : ty Γ b275 140) => ?_)
                              refine lv_iload hx hb dX9_chooses_223 (lv_at hl 1 rfl) ?_
                              refine ty_iconst hx hb (0) dX9_chooses_225 (by decide) (fun x276 h277 => ?_)
                              refine ast_mZ hx hb hE hG hS hU 40 rfl (n := 9) rfl (lo := 0) (hi := 1) rfl rfl rfl t_b275 (by omega) (by omega) (by omega) dX9_chooses_226 (fun H locs hG hS => ?_)
                              obtain ⟨x278, h279⟩ : ∃ y : Int32, y = v6_97 + Int32.ofInt (1) := ⟨_, rfl⟩
                              try have h280 : x278.toInt = v6_97.toInt + (1) := ty_inc h279 (by decide) (by omega) (by omega)
                              refine lv_iinc (v := x278) (lv' := [(6, .int x278), (7, .int x221), (5, .int x7), (0, .ref h0), (1, .int p1), (2, .int p2), (3, .int p3), (4, .int p4)]) hx hb dX9_chooses_227 hl (k := 1) rfl h279.symm (by decide) rfl (fun ls hl => ?_)
                              refine lv_goto (tgt := 97) hx hb dX9_chooses_230 (by decide) ?_
                              have hk281 : u268 137 0 = (gs (gs g24 138 p1.toInt.toNat v6_97.toInt) 140 v6_97.toInt.toNat x226.toInt) 137 0 := hf274 137 0 (by decide) (by decide) (by decide) (by decide) (by decide)
                              have hk281 : u268 137 0 = g24 137 0 := by rw [hk281]; simp [gs]
                              have e282 : (gs u268 140 v6_97.toInt.toNat x276.toInt) 137 0 = u268 137 0 := by simp [gs]
                              exact ih_97 x278 (gs u268 140 v6_97.toInt.toNat x276.toInt) _ _ ls (by omega) (by omega) (fun c j h138 h139 h140 h141 h142 => by rw [gs_c _ _ _ _ h140, hf274 c j h138 h139 h140 h141 h142, gs_c _ _ _ _ h140, gs_c _ _ _ _ h138, hf25 c j h138 h139 h140 h141 h142]) (fun i hi => by rw [gs_c _ _ _ _ (by decide), hq270 i, gs_c _ _ _ _ (by decide), gs_j _ _ _ _ hi]; exact hq0 i hi) (fun i => by by_cases hi : i = v6_97.toInt.toNat; (rw [hi, gs_self, ← hq1 v6_97.toInt.toNat]; omega); (rw [gs_j _ _ _ _ hi]; rw [hq271 i, gs_j _ _ _ _ hi, gs_c _ _ _ _ (by decide)]; exact hq1 i)) (BG_cg (by rw [gs_c _ _ _ _ (by decide)]) (fun i => by rw [gs_c _ _ _ _ (by decide)]) (by have h9 := hq272; rw [h137] at h9; exact h9)) (fun h => by rw [gs_c _ _ _ _ (by decide)]; exact hq273 (Or.inl (by rw [gs_c _ _ _ _ (by decide), gs_c _ _ _ _ (by decide)]; exact hq3 h))) hG hS (lv_sub hl [0, 2, 3, 4, 5, 6, 7] rfl)
                        · exfalso; omega
        exact L_97 ((g 137 0 - x22.toInt) + 1).toNat x22 g _ _ ls (by omega) (by omega) (fun c j _ _ _ _ _ => rfl) (fun i hi => rfl) (fun i => rfl) (hB) (fun h => h) hG hS (lv_sub hl [0, 1, 2, 3, 4, 5, 6] rfl)
      · skip
        refine lv_aload_n hx hb dX9_chooses_48 rfl (lv_at hl 1 rfl) ?_
        refine lv_iload_n hx hb dX9_chooses_49 rfl (lv_at hl 3 rfl) ?_
        refine put_X9_41 hx hb hA hown hE hG hS hU t_h0 wd_4_171 dX9_chooses_50 (fun H locs hG hS => ?_)
        refine lv_aload_n hx hb dX9_chooses_53 rfl (lv_at hl 1 rfl) ?_
        refine lv_iload hx hb dX9_chooses_54 (lv_at hl 5 rfl) ?_
        refine lv_iload_n hx hb dX9_chooses_56 rfl (lv_at hl 4 rfl) ?_
        refine ty_isub hx hb dX9_chooses_57 (fun x283 h284 => ?_)
        try have h285 : x283.toInt = p4.toInt - p3.toInt := ty_sub h284 (by omega) (by omega)
        refine put_X9_42 hx hb hA hown hE hG hS hU t_h0 wd_4_172 dX9_chooses_58 (fun H locs hG hS => ?_)
        refine ty_iconst hx hb (0) dX9_chooses_61 (by decide) (fun x286 h287 => ?_)
        refine lv_istore (lv' := [(6, .int x286), (5, .int x7), (0, .ref h0), (1, .int p1), (2, .int p2), (3, .int p3), (4, .int p4)]) hx hb dX9_chooses_62 hl (by decide) rfl (fun ls hl => ?_)
        have e289 : (gs (gs g 141 0 p2.toInt) 142 0 x283.toInt) 137 0 = g 137 0 := by simp [gs]
        have L_64 : ∀ (n : Nat) (v6_64 : Int32) (g288 : gh) (H : Heap) (locs : List Loc) (ls : Array Slot), (g288 137 0 - v6_64.toInt : Int) < n → 0 ≤ v6_64.toInt ∧ v6_64.toInt ≤ g288 137 0 → (∀ c j : Nat, c ≠ 139 → g288 c j = (gs (gs g 141 0 p2.toInt) 142 0 x283.toInt) c j) → (∀ i : Nat, (i : Int) < v6_64.toInt → g288 139 i = g 138 i) → ty_ok (dC, dI) vwCl Γ (TP dA Γ g288) sz X H → va_S (ty_A sz) s.heap H locs → lv_has ls 8 [(6, .int v6_64), (5, .int x7), (0, .ref h0), (1, .int p1), (2, .int p2), (3, .int p3), (4, .int p4)] → W p l e (headSpec (.code yX9_chooses cX9_chooses 8 (Option.none : Option Jvm.ClassFile.FieldType) :: AL) ({ frames := F + 3, cells := 0, slots := 0, locals := L + 100 })).room s m ([.ref h0, .int p1, .int p2, .int p3, .int p4] : List Value).toArray below meth c H locs 0 0 (MQ below (va_Qv (fun (u : gh) => (∀ c j : Nat, c ≠ 138 → c ≠ 139 → c ≠ 140 → c ≠ 141 → c ≠ 142 → u c j = g c j) ∧ (∀ i : Nat, u 138 i = g 138 i) ∧ (∀ i : Nat, u 140 i = g 140 i) ∧ (BG u (g 137 0).toNat) ∧ ((0 ≤ g 141 0 ∨ ∀ j : Nat, j < (g 137 0).toNat → g 140 j ≠ 1) → 0 ≤ u 141 0)) (okb dC dI dA sz X Γ) (ty_A sz)) ([.ref h0, .int p1, .int p2, .int p3, .int p4] : List Value).toArray s 0 0 (ty_A sz)) (F0 m 64 ls []) := by
          intro n
          induction n with
          | zero => intro v6_64 g288 H locs ls hm hi0 hf290 hq0 hG hS hl; exfalso; omega
          | succ n ih_64 =>
            intro v6_64 g288 H locs ls hm hi0 hf290 hq0 hG hS hl
            have hk291 : g288 137 0 = (gs (gs g 141 0 p2.toInt) 142 0 x283.toInt) 137 0 := hf290 137 0 (by decide)
            have hk291 : g288 137 0 = g 137 0 := by rw [hk291]; simp [gs]
            refine lv_iload hx hb dX9_chooses_64 (lv_at hl 0 rfl) ?_
            refine lv_aload_n hx hb dX9_chooses_66 rfl (lv_at hl 2 rfl) ?_
            refine get_X9_37 hx hb hA hown hE hG t_h0 wd_4_167 dX9_chooses_67 (fun x292 h293 => ?_)
            refine ty_icmp_ge (tgt := 93) hx hb dX9_chooses_70 (by decide) (fun c295 => ?_) (fun c295 => ?_)
            · skip
              have hr296 : g288 141 = (gs g 141 0 p2.toInt) 141 := funext fun j => by rw [hf290 141 j (by decide), gs_c _ _ _ _ (by decide)]
              exact W.vret hx hb hr (fun t ht hW => ⟨⟨g288, rfl, ⟨(fun c j h138 h139 h140 h141 h142 => by rw [hf290 c j h139, gs_c _ _ _ _ h142, gs_c _ _ _ _ h141]), (fun i => by rw [hf290 138 i (by decide), gs_c _ _ _ _ (by decide), gs_c _ _ _ _ (by decide)]), (fun i => by rw [hf290 140 i (by decide), gs_c _ _ _ _ (by decide), gs_c _ _ _ _ (by decide)]), (BG_leaf (g := g) (by have h9 := hC; rw [show p1.toInt.toNat = (g 137 0).toNat by omega] at h9; exact h9) (fun i hi => hq0 i (by omega))), (fun _ => by rw [hr296, gs_self]; omega)⟩, ok1 ht hG⟩, hS.F ht⟩) hS.2.2 dX9_chooses_93
            · skip
              refine lv_aload_n hx hb dX9_chooses_73 rfl (lv_at hl 2 rfl) ?_
              refine get_X9_39 hx hb hA hown hE hG t_h0 wd_4_169 dX9_chooses_74 (fun b297 (t_b297 : ty Γ b297 139) => ?_)
              refine lv_iload hx hb dX9_chooses_77 (lv_at hl 0 rfl) ?_
              refine lv_aload_n hx hb dX9_chooses_79 rfl (lv_at hl 2 rfl) ?_
              refine get_X9_38 hx hb hA hown hE hG t_h0 wd_4_168 dX9_chooses_80 (fun b298 (t_b298 : ty Γ b298 138) => ?_)
              refine lv_iload hx hb dX9_chooses_83 (lv_at hl 0 rfl) ?_
              refine ald_mI hx hb hE hG 38 rfl (n := 9) rfl (lo := -2) (hi := 8) rfl rfl t_b298 (by omega) dX9_chooses_85 (fun j300 x299 h301 h302 h303 => ?_)
              obtain rfl : j300 = v6_64.toInt.toNat := by omega
              replace h302 : x299.toInt = g288 138 v6_64.toInt.toNat := h302
              have hR9 : g288 138 v6_64.toInt.toNat = g 138 v6_64.toInt.toNat := by rw [hf290 138 v6_64.toInt.toNat (by decide), gs_c _ _ _ _ (by decide), gs_c _ _ _ _ (by decide)]
              have hA9 := (hC.1 v6_64.toInt.toNat (by omega)).1
              refine ast_mI hx hb hE hG hS hU 39 rfl (n := 9) rfl (lo := -1) (hi := 8) rfl rfl rfl t_b297 (by omega) (by omega) dX9_chooses_86 (fun H locs hG hS => ?_)
              obtain ⟨x304, h305⟩ : ∃ y : Int32, y = v6_64 + Int32.ofInt (1) := ⟨_, rfl⟩
              try have h306 : x304.toInt = v6_64.toInt + (1) := ty_inc h305 (by decide) (by omega) (by omega)
              refine lv_iinc (v := x304) (lv' := [(6, .int x304), (5, .int x7), (0, .ref h0), (1, .int p1), (2, .int p2), (3, .int p3), (4, .int p4)]) hx hb dX9_chooses_87 hl (k := 0) rfl h305.symm (by decide) rfl (fun ls hl => ?_)
              refine lv_goto (tgt := 64) hx hb dX9_chooses_90 (by decide) ?_
              have e307 : (gs g288 139 v6_64.toInt.toNat x299.toInt) 137 0 = g288 137 0 := by simp [gs]
              exact ih_64 x304 (gs g288 139 v6_64.toInt.toNat x299.toInt) _ _ ls (by omega) (by omega) (fun c j h139 => by rw [gs_c _ _ _ _ h139, hf290 c j h139]) (fun i hi => by by_cases e9 : i = v6_64.toInt.toNat; (rw [e9, gs_self]; omega); (rw [gs_j _ _ _ _ e9]; exact hq0 i (by omega))) hG hS (lv_sub hl [0, 1, 2, 3, 4, 5, 6] rfl)
        have e308 : (gs (gs g 141 0 p2.toInt) 142 0 x283.toInt) 137 0 = g 137 0 := by simp [gs]
        exact L_64 (((gs (gs g 141 0 p2.toInt) 142 0 x283.toInt) 137 0 - x286.toInt) + 1).toNat x286 (gs (gs g 141 0 p2.toInt) 142 0 x283.toInt) _ _ ls (by omega) (by omega) (fun c j _ => rfl) (fun i hi => absurd hi (by omega)) hG hS (lv_sub hl [0, 1, 2, 3, 4, 5, 6] rfl)
    · skip
      refine lv_iload hx hb dX9_chooses_28 (lv_at hl 5 rfl) ?_
      refine lv_iload_n hx hb dX9_chooses_30 rfl (lv_at hl 4 rfl) ?_
      refine ty_isub hx hb dX9_chooses_31 (fun x309 h310 => ?_)
      try have h311 : x309.toInt = p4.toInt - p3.toInt := ty_sub h310 (by omega) (by omega)
      refine lv_aload_n hx hb dX9_chooses_32 rfl (lv_at hl 1 rfl) ?_
      refine get_X9_42 hx hb hA hown hE hG t_h0 wd_4_172 dX9_chooses_33 (fun x312 h313 => ?_)
      refine ty_icmp_gt (tgt := 40) hx hb dX9_chooses_36 (by decide) (fun c315 => ?_) (fun c315 => ?_)
      · skip
        refine lv_iload_n hx hb dX9_chooses_40 rfl (lv_at hl 2 rfl) ?_
        refine lv_aload_n hx hb dX9_chooses_41 rfl (lv_at hl 1 rfl) ?_
        refine get_X9_37 hx hb hA hown hE hG t_h0 wd_4_167 dX9_chooses_42 (fun x316 h317 => ?_)
        refine ty_icmp_ne (tgt := 94) hx hb dX9_chooses_45 (by decide) (fun c319 => ?_) (fun c319 => ?_)
        · skip
          refine ty_iconst hx hb (0) dX9_chooses_94 (by decide) (fun x320 h321 => ?_)
          refine lv_istore (lv' := [(6, .int x320), (5, .int x7), (0, .ref h0), (1, .int p1), (2, .int p2), (3, .int p3), (4, .int p4)]) hx hb dX9_chooses_95 hl (by decide) rfl (fun ls hl => ?_)
          have L_97 : ∀ (n : Nat) (v6_97 : Int32) (g322 : gh) (H : Heap) (locs : List Loc) (ls : Array Slot), (g322 137 0 - v6_97.toInt : Int) < n → 0 ≤ v6_97.toInt ∧ v6_97.toInt ≤ g322 137 0 → (∀ c j : Nat, c ≠ 138 → c ≠ 139 → c ≠ 140 → c ≠ 141 → c ≠ 142 → g322 c j = g c j) → (∀ i : Nat, i ≠ p1.toInt.toNat → g322 138 i = g 138 i) → (∀ i : Nat, g322 140 i = g 140 i) → (BG g322 (g 137 0).toNat) → (0 ≤ g 141 0 → 0 ≤ g322 141 0) → ty_ok (dC, dI) vwCl Γ (TP dA Γ g322) sz X H → va_S (ty_A sz) s.heap H locs → lv_has ls 8 [(6, .int v6_97), (5, .int x7), (0, .ref h0), (1, .int p1), (2, .int p2), (3, .int p3), (4, .int p4)] → W p l e (headSpec (.code yX9_chooses cX9_chooses 8 (Option.none : Option Jvm.ClassFile.FieldType) :: AL) ({ frames := F + 3, cells := 0, slots := 0, locals := L + 100 })).room s m ([.ref h0, .int p1, .int p2, .int p3, .int p4] : List Value).toArray below meth c H locs 0 0 (MQ below (va_Qv (fun (u : gh) => (∀ c j : Nat, c ≠ 138 → c ≠ 139 → c ≠ 140 → c ≠ 141 → c ≠ 142 → u c j = g c j) ∧ (∀ i : Nat, u 138 i = g 138 i) ∧ (∀ i : Nat, u 140 i = g 140 i) ∧ (BG u (g 137 0).toNat) ∧ ((0 ≤ g 141 0 ∨ ∀ j : Nat, j < (g 137 0).toNat → g 140 j ≠ 1) → 0 ≤ u 141 0)) (okb dC dI dA sz X Γ) (ty_A sz)) ([.ref h0, .int p1, .int p2, .int p3, .int p4] : List Value).toArray s 0 0 (ty_A sz)) (F0 m 97 ls []) := by
            intro n
            induction n with
            | zero => intro v6_97 g322 H locs ls hm hi0 hf323 hq0 hq1 hq2 hq3 hG hS hl; exfalso; omega
            | succ n ih_97 =>
              intro v6_97 g322 H locs ls hm hi0 hf323 hq0 hq1 hq2 hq3 hG hS hl
              have hk324 : g322 137 0 = g 137 0 := hf323 137 0 (by decide) (by decide) (by decide) (by decide) (by decide)
              refine lv_iload hx hb dX9_chooses_97 (lv_at hl 0 rfl) ?_
              refine lv_aload_n hx hb dX9_chooses_99 rfl (lv_at hl 2 rfl) ?_
              refine get_X9_37 hx hb hA hown hE hG t_h0 wd_4_167 dX9_chooses_100 (fun x325 h326 => ?_)
              refine ty_icmp_ge (tgt := 233) hx hb dX9_chooses_103 (by decide) (fun c328 => ?_) (fun c328 => ?_)
              · skip
                refine lv_aload_n hx hb dX9_chooses_233 rfl (lv_at hl 2 rfl) ?_
                refine get_X9_38 hx hb hA hown hE hG t_h0 wd_4_168 dX9_chooses_234 (fun b329 (t_b329 : ty Γ b329 138) => ?_)
                refine lv_iload_n hx hb dX9_chooses_237 rfl (lv_at hl 3 rfl) ?_
                refine ty_iconst hx hb (-1) dX9_chooses_238 (by decide) (fun x330 h331 => ?_)
                refine ast_mI hx hb hE hG hS hU 38 rfl (n := 9) rfl (lo := -2) (hi := 8) rfl rfl rfl t_b329 (by omega) (by omega) dX9_chooses_239 (fun H locs hG hS => ?_)
                refine lv_aload_n hx hb dX9_chooses_240 rfl (lv_at hl 2 rfl) ?_
                refine get_X9_40 hx hb hA hown hE hG t_h0 wd_4_170 dX9_chooses_241 (fun b332 (t_b332 : ty Γ b332 140) => ?_)
                refine lv_iload_n hx hb dX9_chooses_244 rfl (lv_at hl 3 rfl) ?_
                refine ald_mZ hx hb hE hG 40 rfl (n := 9) rfl (lo := 0) (hi := 1) rfl rfl t_b332 (by omega) dX9_chooses_245 (fun j334 x333 h335 h336 h337 => ?_)
                obtain rfl : j334 = p1.toInt.toNat := by omega
                rw [gs_c _ _ _ _ (by decide)] at h336
                replace h336 : x333.toInt = g322 140 p1.toInt.toNat := h336
                refine ty_if_ne (tgt := 272) hx hb dX9_chooses_246 (by decide) (fun c338 => ?_) (fun c338 => ?_)
                · skip
                  refine lv_aload_n hx hb dX9_chooses_272 rfl (lv_at hl 2 rfl) ?_
                  refine get_X9_38 hx hb hA hown hE hG t_h0 wd_4_168 dX9_chooses_273 (fun b339 (t_b339 : ty Γ b339 138) => ?_)
                  refine lv_iload_n hx hb dX9_chooses_276 rfl (lv_at hl 3 rfl) ?_
                  refine ty_bipush hx hb (-2) dX9_chooses_277 (by decide) (fun x340 h341 => ?_)
                  refine ast_mI hx hb hE hG hS hU 38 rfl (n := 9) rfl (lo := -2) (hi := 8) rfl rfl rfl t_b339 (by omega) (by omega) dX9_chooses_279 (fun H locs hG hS => ?_)
                  exact W.vret hx hb hr (fun t ht hW => ⟨⟨(gs (gs g322 138 p1.toInt.toNat x330.toInt) 138 p1.toInt.toNat x340.toInt), rfl, ⟨(fun c j h138 h139 h140 h141 h142 => by rw [gs_c _ _ _ _ h138, gs_c _ _ _ _ h138, hf323 c j h138 h139 h140 h141 h142]), (fun i => by by_cases hi : i = p1.toInt.toNat; (rw [hi, gs_self, hC.2.1 p1.toInt.toNat (by omega) (by omega)]; omega); (rw [gs_j _ _ _ _ hi]; rw [gs_j _ _ _ _ hi]; exact hq0 i hi)), (fun i => by rw [gs_c _ _ _ _ (by decide), gs_c _ _ _ _ (by decide)]; exact hq1 i), (BG_cg (by rw [gs_c _ _ _ _ (by decide), gs_c _ _ _ _ (by decide)]) (fun i => by rw [gs_c _ _ _ _ (by decide), gs_c _ _ _ _ (by decide)]) hq2), (fun h => by rw [gs_c _ _ _ _ (by decide), gs_c _ _ _ _ (by decide)]; exact hq3 (h.elim id (fun h9 => absurd (show g 140 p1.toInt.toNat = 1 by have := hq1 p1.toInt.toNat; omega) (h9 p1.toInt.toNat (by omega)))))⟩, ok1 ht hG⟩, hS.F ht⟩) hS.2.2 dX9_chooses_280
                · skip
                  have hz9 := hq1 p1.toInt.toNat
                  have h137 : (gs g322 138 p1.toInt.toNat x330.toInt) 137 0 = g 137 0 := by rw [gs_c _ _ _ _ (by decide), hf323 137 0 (by decide) (by decide) (by decide) (by decide) (by decide)]
                  have hC2 : CH (gs g322 138 p1.toInt.toNat x330.toInt) (g 137 0).toNat (p1.toInt.toNat + 1) := CH_none hC (by omega) (by omega) (by rw [gs_self]; omega) (fun i hi => by rw [gs_j _ _ _ _ hi]; exact hq0 i hi) (fun i => by rw [gs_c _ _ _ _ (by decide)]; exact hq1 i)
                  refine lv_aload_n hx hb dX9_chooses_249 rfl (lv_at hl 2 rfl) ?_
                  refine lv_iload_n hx hb dX9_chooses_250 rfl (lv_at hl 3 rfl) ?_
                  refine ty_iconst hx hb (1) dX9_chooses_251 (by decide) (fun x342 h343 => ?_)
                  refine ty_iadd hx hb dX9_chooses_252 (fun x344 h345 => ?_)
                  try have h346 : x344.toInt = p1.toInt + x342.toInt := ty_add h345 (by omega) (by omega)
                  refine lv_iload_n hx hb dX9_chooses_253 rfl (lv_at hl 4 rfl) ?_
                  refine lv_iload_n hx hb dX9_chooses_254 rfl (lv_at hl 5 rfl) ?_
                  refine lv_aload_n hx hb dX9_chooses_255 rfl (lv_at hl 2 rfl) ?_
                  refine get_X9_31 hx hb hA hown hE hG t_h0 wd_4_161 dX9_chooses_256 (fun b347 (t_b347 : ty Γ b347 131) => ?_)
                  refine lv_aload_n hx hb dX9_chooses_259 rfl (lv_at hl 2 rfl) ?_
                  refine get_X9_36 hx hb hA hown hE hG t_h0 wd_4_166 dX9_chooses_260 (fun b348 (t_b348 : ty Γ b348 136) => ?_)
                  refine lv_iload_n hx hb dX9_chooses_263 rfl (lv_at hl 3 rfl) ?_
                  refine ald_mI hx hb hE hG 36 rfl (n := 9) rfl (lo := 0) (hi := 199) rfl rfl t_b348 (by omega) dX9_chooses_264 (fun j350 x349 h351 h352 h353 => ?_)
                  obtain rfl : j350 = p1.toInt.toNat := by omega
                  rw [gs_c _ _ _ _ (by decide)] at h352
                  replace h352 : x349.toInt = g322 136 p1.toInt.toNat := h352
                  refine ald_mI hx hb hE hG 31 rfl (n := 200) rfl (lo := -2147483648) (hi := 2147483647) rfl rfl t_b347 (by omega) dX9_chooses_265 (fun j355 x354 h356 h357 h358 => ?_)
                  clear h358
                  obtain rfl : j355 = x349.toInt.toNat := by omega
                  rw [gs_c _ _ _ _ (by decide)] at h357
                  replace h357 : x354.toInt = g322 131 x349.toInt.toNat := h357
                  refine ty_iadd hx hb dX9_chooses_266 (fun x359 h360 => ?_)
                  refine lv_iload hx hb dX9_chooses_267 (lv_at hl 6 rfl) ?_
                  have e362 : (gs g322 138 p1.toInt.toNat x330.toInt) 137 0 = g322 137 0 := by simp [gs]
                  have e363 : (gs g322 138 p1.toInt.toNat x330.toInt) 137 0 = g322 137 0 := by simp [gs]
                  have e364 : (gs g322 138 p1.toInt.toNat x330.toInt) 137 0 = g322 137 0 := by simp [gs]
                  refine cV (va_runV (C := RX9) (As := [.int x344, .int p2, .int x359, .int p4]) (rest := []) ⟨hx, hb, hml, hown, hA⟩ (IH l dC dI dA sz X Γ hU (gs g322 138 p1.toInt.toNat x330.toInt) h0 t_h0 x344 p2 x359 p4   (by omega) (by rw [h137, show x344.toInt.toNat = p1.toInt.toNat + 1 by omega]; exact hC2) (by rw [h137]; exact BG_cg (by rw [gs_c _ _ _ _ (by decide)]) (fun i => by rw [gs_c _ _ _ _ (by decide)]) hq2)) ⟨callB_of 4 hA (al_A wd_5_152) rfl rfl rfl (hA _ wd_1_7) (hA _ wd_5_149) (by decide +kernel) ⟨Nat.add_le_add_left (by decide) F, show 8 + (8 + 11) + L ≤ L + 100 by omega⟩, hA _ wd_5_151, hA _ ws_49⟩ ⟨bl, recv_X9 hE hG t_h0, fun U hU9 hW9 => ⟨rfl, by rw [hU9]; exact hG, hE.go hS hU9 hW9⟩⟩ rfl rfl hl.1 rfl (lv_room (Nat.le_of_ble_eq_true rfl)) dX9_chooses_269 ⟨Nat.zero_le _, Nat.zero_le _⟩) hS (fun u365 H locs w366 hG hS => ?_)
                  obtain ⟨hf371, hq367, hq368, hq369, hq370⟩ := w366
                  refine lv_aload_n hx hb dX9_chooses_272 rfl (lv_at hl 2 rfl) ?_
                  refine get_X9_38 hx hb hA hown hE hG t_h0 wd_4_168 dX9_chooses_273 (fun b372 (t_b372 : ty Γ b372 138) => ?_)
                  refine lv_iload_n hx hb dX9_chooses_276 rfl (lv_at hl 3 rfl) ?_
                  refine ty_bipush hx hb (-2) dX9_chooses_277 (by decide) (fun x373 h374 => ?_)
                  refine ast_mI hx hb hE hG hS hU 38 rfl (n := 9) rfl (lo := -2) (hi := 8) rfl rfl rfl t_b372 (by omega) (by omega) dX9_chooses_279 (fun H locs hG hS => ?_)
                  exact W.vret hx hb hr (fun t ht hW => ⟨⟨(gs u365 138 p1.toInt.toNat x373.toInt), rfl, ⟨(fun c j h138 h139 h140 h141 h142 => by rw [gs_c _ _ _ _ h138, hf371 c j h138 h139 h140 h141 h142, gs_c _ _ _ _ h138, hf323 c j h138 h139 h140 h141 h142]), (fun i => by by_cases hi : i = p1.toInt.toNat; (rw [hi, gs_self, hC.2.1 p1.toInt.toNat (by omega) (by omega)]; omega); (rw [gs_j _ _ _ _ hi]; rw [hq367 i, gs_j _ _ _ _ hi]; exact hq0 i hi)), (fun i => by rw [gs_c _ _ _ _ (by decide), hq368 i, gs_c _ _ _ _ (by decide)]; exact hq1 i), (BG_cg (by rw [gs_c _ _ _ _ (by decide)]) (fun i => by rw [gs_c _ _ _ _ (by decide)]) (by have h9 := hq369; rw [h137] at h9; exact h9)), (fun h => by rw [gs_c _ _ _ _ (by decide)]; exact hq370 (h.elim (fun h9 => Or.inl (by rw [gs_c _ _ _ _ (by decide)]; exact hq3 h9)) (fun h9 => Or.inr (fun j hj => by rw [h137] at hj; rw [gs_c _ _ _ _ (by decide)]; rw [hq1 j]; exact h9 j hj))))⟩, ok1 ht hG⟩, hS.F ht⟩) hS.2.2 dX9_chooses_280
              · skip
                refine lv_iload hx hb dX9_chooses_106 (lv_at hl 0 rfl) ?_
                refine lv_iload_n hx hb dX9_chooses_108 rfl (lv_at hl 3 rfl) ?_
                refine ty_icmp_eq (tgt := 163) hx hb dX9_chooses_109 (by decide) (fun c375 => ?_) (fun c375 => ?_)
                · skip
                  refine ty_iconst hx hb (0) dX9_chooses_163 (by decide) (fun x376 h377 => ?_)
                  refine lv_istore (lv' := [(7, .int x376), (6, .int v6_97), (5, .int x7), (0, .ref h0), (1, .int p1), (2, .int p2), (3, .int p3), (4, .int p4)]) hx hb dX9_chooses_164 hl (by decide) rfl (fun ls hl => ?_)
                  refine lv_iload hx hb dX9_chooses_166 (lv_at hl 0 rfl) ?_
                  refine ty_if_ne (tgt := 174) hx hb dX9_chooses_168 (by decide) (fun c378 => ?_) (fun c378 => ?_)
                  · exfalso; omega
                  · skip
                    refine lv_goto (tgt := 227) hx hb dX9_chooses_171 (by decide) ?_
                    obtain ⟨x379, h380⟩ : ∃ y : Int32, y = v6_97 + Int32.ofInt (1) := ⟨_, rfl⟩
                    try have h381 : x379.toInt = v6_97.toInt + (1) := ty_inc h380 (by decide) (by omega) (by omega)
                    refine lv_iinc (v := x379) (lv' := [(6, .int x379), (7, .int x376), (5, .int x7), (0, .ref h0), (1, .int p1), (2, .int p2), (3, .int p3), (4, .int p4)]) hx hb dX9_chooses_227 hl (k := 1) rfl h380.symm (by decide) rfl (fun ls hl => ?_)
                    refine lv_goto (tgt := 97) hx hb dX9_chooses_230 (by decide) ?_
                    exact ih_97 x379 g322 _ _ ls (by omega) (by omega) (fun c j h138 h139 h140 h141 h142 => by rw [hf323 c j h138 h139 h140 h141 h142]) (hq0) (hq1) (hq2) (hq3) hG hS (lv_sub hl [0, 2, 3, 4, 5, 6, 7] rfl)
                · skip
                  refine lv_aload_n hx hb dX9_chooses_112 rfl (lv_at hl 2 rfl) ?_
                  refine get_X9_40 hx hb hA hown hE hG t_h0 wd_4_170 dX9_chooses_113 (fun b382 (t_b382 : ty Γ b382 140) => ?_)
                  refine lv_iload hx hb dX9_chooses_116 (lv_at hl 0 rfl) ?_
                  refine ald_mZ hx hb hE hG 40 rfl (n := 9) rfl (lo := 0) (hi := 1) rfl rfl t_b382 (by omega) dX9_chooses_118 (fun j384 x383 h385 h386 h387 => ?_)
                  obtain rfl : j384 = v6_97.toInt.toNat := by omega
                  replace h386 : x383.toInt = g322 140 v6_97.toInt.toNat := h386
                  refine ty_if_ne (tgt := 163) hx hb dX9_chooses_119 (by decide) (fun c388 => ?_) (fun c388 => ?_)
                  · skip
                    refine ty_iconst hx hb (0) dX9_chooses_163 (by decide) (fun x389 h390 => ?_)
                    refine lv_istore (lv' := [(7, .int x389), (6, .int v6_97), (5, .int x7), (0, .ref h0), (1, .int p1), (2, .int p2), (3, .int p3), (4, .int p4)]) hx hb dX9_chooses_164 hl (by decide) rfl (fun ls hl => ?_)
                    refine lv_iload hx hb dX9_chooses_166 (lv_at hl 0 rfl) ?_
                    refine ty_if_ne (tgt := 174) hx hb dX9_chooses_168 (by decide) (fun c391 => ?_) (fun c391 => ?_)
                    · exfalso; omega
                    · skip
                      refine lv_goto (tgt := 227) hx hb dX9_chooses_171 (by decide) ?_
                      obtain ⟨x392, h393⟩ : ∃ y : Int32, y = v6_97 + Int32.ofInt (1) := ⟨_, rfl⟩
                      try have h394 : x392.toInt = v6_97.toInt + (1) := ty_inc h393 (by decide) (by omega) (by omega)
                      refine lv_iinc (v := x392) (lv' := [(6, .int x392), (7, .int x389), (5, .int x7), (0, .ref h0), (1, .int p1), (2, .int p2), (3, .int p3), (4, .int p4)]) hx hb dX9_chooses_227 hl (k := 1) rfl h393.symm (by decide) rfl (fun ls hl => ?_)
                      refine lv_goto (tgt := 97) hx hb dX9_chooses_230 (by decide) ?_
                      exact ih_97 x392 g322 _ _ ls (by omega) (by omega) (fun c j h138 h139 h140 h141 h142 => by rw [hf323 c j h138 h139 h140 h141 h142]) (hq0) (hq1) (hq2) (hq3) hG hS (lv_sub hl [0, 2, 3, 4, 5, 6, 7] rfl)
                  · skip
                    refine lv_iload hx hb dX9_chooses_122 (lv_at hl 0 rfl) ?_
                    refine lv_iload_n hx hb dX9_chooses_124 rfl (lv_at hl 3 rfl) ?_
                    refine ty_icmp_gt (tgt := 139) hx hb dX9_chooses_125 (by decide) (fun c395 => ?_) (fun c395 => ?_)
                    · skip
                      refine lv_aload_n hx hb dX9_chooses_139 rfl (lv_at hl 2 rfl) ?_
                      refine lv_aload_n hx hb dX9_chooses_140 rfl (lv_at hl 2 rfl) ?_
                      refine get_X9_36 hx hb hA hown hE hG t_h0 wd_4_166 dX9_chooses_141 (fun b396 (t_b396 : ty Γ b396 136) => ?_)
                      refine lv_iload hx hb dX9_chooses_144 (lv_at hl 0 rfl) ?_
                      refine ald_mI hx hb hE hG 36 rfl (n := 9) rfl (lo := 0) (hi := 199) rfl rfl t_b396 (by omega) dX9_chooses_146 (fun j398 x397 h399 h400 h401 => ?_)
                      obtain rfl : j398 = v6_97.toInt.toNat := by omega
                      replace h400 : x397.toInt = g322 136 v6_97.toInt.toNat := h400
                      refine lv_aload_n hx hb dX9_chooses_147 rfl (lv_at hl 2 rfl) ?_
                      refine get_X9_36 hx hb hA hown hE hG t_h0 wd_4_166 dX9_chooses_148 (fun b402 (t_b402 : ty Γ b402 136) => ?_)
                      refine lv_iload_n hx hb dX9_chooses_151 rfl (lv_at hl 3 rfl) ?_
                      refine ald_mI hx hb hE hG 36 rfl (n := 9) rfl (lo := 0) (hi := 199) rfl rfl t_b402 (by omega) dX9_chooses_152 (fun j404 x403 h405 h406 h407 => ?_)
                      obtain rfl : j404 = p1.toInt.toNat := by omega
                      replace h406 : x403.toInt = g322 136 p1.toInt.toNat := h406
                      refine cI (va_runV (C := RX9) (As := [.int x397, .int x403]) (rest := []) ⟨hx, hb, hml, hown, hA⟩ (k_X9_meets l dC dI dA sz X Γ hU g322 h0 t_h0 x397 x403   (by omega)) ⟨callB_of 2 hA (al_A wd_5_156) rfl rfl rfl (hA _ wd_1_7) (hA _ wd_5_153) (by decide +kernel) ⟨Nat.le_trans (Nat.le_of_ble_eq_true rfl) (Nat.le_add_left 3 F), Nat.le_trans (Nat.le_of_ble_eq_true rfl) (Nat.le_add_left 100 L)⟩, hA _ wd_5_155, hA _ ws_50⟩ ⟨bl, recv_X9 hE hG t_h0, fun U hU9 hW9 => ⟨rfl, by rw [hU9]; exact hG, hE.go hS hU9 hW9⟩⟩ rfl rfl hl.1 rfl (lv_room (Nat.le_of_ble_eq_true rfl)) dX9_chooses_153 ⟨Nat.zero_le _, Nat.zero_le _⟩) hS (fun x410 u408 H locs w409 hG hS => ?_)
                      obtain ⟨eu411, w409⟩ := w409
                      rw [eu411] at hG
                      refine ty_if_eq (tgt := 163) hx hb dX9_chooses_156 (by decide) (fun c412 => ?_) (fun c412 => ?_)
                      · skip
                        refine ty_iconst hx hb (0) dX9_chooses_163 (by decide) (fun x413 h414 => ?_)
                        refine lv_istore (lv' := [(7, .int x413), (6, .int v6_97), (5, .int x7), (0, .ref h0), (1, .int p1), (2, .int p2), (3, .int p3), (4, .int p4)]) hx hb dX9_chooses_164 hl (by decide) rfl (fun ls hl => ?_)
                        refine lv_iload hx hb dX9_chooses_166 (lv_at hl 0 rfl) ?_
                        refine ty_if_ne (tgt := 174) hx hb dX9_chooses_168 (by decide) (fun c415 => ?_) (fun c415 => ?_)
                        · exfalso; omega
                        · skip
                          refine lv_goto (tgt := 227) hx hb dX9_chooses_171 (by decide) ?_
                          obtain ⟨x416, h417⟩ : ∃ y : Int32, y = v6_97 + Int32.ofInt (1) := ⟨_, rfl⟩
                          try have h418 : x416.toInt = v6_97.toInt + (1) := ty_inc h417 (by decide) (by omega) (by omega)
                          refine lv_iinc (v := x416) (lv' := [(6, .int x416), (7, .int x413), (5, .int x7), (0, .ref h0), (1, .int p1), (2, .int p2), (3, .int p3), (4, .int p4)]) hx hb dX9_chooses_227 hl (k := 1) rfl h417.symm (by decide) rfl (fun ls hl => ?_)
                          refine lv_goto (tgt := 97) hx hb dX9_chooses_230 (by decide) ?_
                          exact ih_97 x416 g322 _ _ ls (by omega) (by omega) (fun c j h138 h139 h140 h141 h142 => by rw [hf323 c j h138 h139 h140 h141 h142]) (hq0) (hq1) (hq2) (hq3) hG hS (lv_sub hl [0, 2, 3, 4, 5, 6, 7] rfl)
                      · skip
                        refine ty_iconst hx hb (1) dX9_chooses_159 (by decide) (fun x419 h420 => ?_)
                        refine lv_goto (tgt := 164) hx hb dX9_chooses_160 (by decide) ?_
                        refine lv_istore (lv' := [(7, .int x419), (6, .int v6_97), (5, .int x7), (0, .ref h0), (1, .int p1), (2, .int p2), (3, .int p3), (4, .int p4)]) hx hb dX9_chooses_164 hl (by decide) rfl (fun ls hl => ?_)
                        refine lv_iload hx hb dX9_chooses_166 (lv_at hl 0 rfl) ?_
                        refine ty_if_ne (tgt := 174) hx hb dX9_chooses_168 (by decide) (fun c421 => ?_) (fun c421 => ?_)
                        · skip
                          refine lv_aload_n hx hb dX9_chooses_174 rfl (lv_at hl 3 rfl) ?_
                          refine get_X9_38 hx hb hA hown hE hG t_h0 wd_4_168 dX9_chooses_175 (fun b422 (t_b422 : ty Γ b422 138) => ?_)
                          refine lv_iload_n hx hb dX9_chooses_178 rfl (lv_at hl 4 rfl) ?_
                          refine lv_iload hx hb dX9_chooses_179 (lv_at hl 1 rfl) ?_
                          refine ast_mI hx hb hE hG hS hU 38 rfl (n := 9) rfl (lo := -2) (hi := 8) rfl rfl rfl t_b422 (by omega) (by omega) dX9_chooses_181 (fun H locs hG hS => ?_)
                          refine lv_aload_n hx hb dX9_chooses_182 rfl (lv_at hl 3 rfl) ?_
                          refine get_X9_40 hx hb hA hown hE hG t_h0 wd_4_170 dX9_chooses_183 (fun b423 (t_b423 : ty Γ b423 140) => ?_)
                          refine lv_iload hx hb dX9_chooses_186 (lv_at hl 1 rfl) ?_
                          refine ty_iconst hx hb (1) dX9_chooses_188 (by decide) (fun x424 h425 => ?_)
                          refine ast_mZ hx hb hE hG hS hU 40 rfl (n := 9) rfl (lo := 0) (hi := 1) rfl rfl rfl t_b423 (by omega) (by omega) (by omega) dX9_chooses_189 (fun H locs hG hS => ?_)
                          have hz9 := hq1 v6_97.toInt.toNat
                          have hy9 := hq0 v6_97.toInt.toNat (by omega)
                          have h137 : (gs (gs g322 138 p1.toInt.toNat v6_97.toInt) 140 v6_97.toInt.toNat x424.toInt) 137 0 = g 137 0 := by rw [gs_c _ _ _ _ (by decide), gs_c _ _ _ _ (by decide), hf323 137 0 (by decide) (by decide) (by decide) (by decide) (by decide)]
                          have hC2 : CH (gs (gs g322 138 p1.toInt.toNat v6_97.toInt) 140 v6_97.toInt.toNat x424.toInt) (g 137 0).toNat (p1.toInt.toNat + 1) := CH_get hC (by omega) (J := v6_97.toInt.toNat) (by omega) (by omega) (by omega) (by omega) (by rw [gs_c _ _ _ _ (by decide), gs_self]; omega) (fun i hi => by rw [gs_c _ _ _ _ (by decide), gs_j _ _ _ _ hi]; exact hq0 i hi) (by rw [gs_self]; omega) (fun i hi => by rw [gs_j _ _ _ _ hi, gs_c _ _ _ _ (by decide)]; exact hq1 i)
                          refine lv_aload_n hx hb dX9_chooses_190 rfl (lv_at hl 3 rfl) ?_
                          refine lv_iload_n hx hb dX9_chooses_191 rfl (lv_at hl 4 rfl) ?_
                          have e426 : (gs (gs g322 138 p1.toInt.toNat v6_97.toInt) 140 v6_97.toInt.toNat x424.toInt) 137 0 = g322 137 0 := by simp [gs]
                          have e427 : (gs (gs g322 138 p1.toInt.toNat v6_97.toInt) 140 v6_97.toInt.toNat x424.toInt) 137 0 = g322 137 0 := by simp [gs]
                          refine cI (va_runV (C := RX9) (As := [.int p1]) (rest := []) ⟨hx, hb, hml, hown, hA⟩ (k_X9_isShort l dC dI dA sz X Γ hU (gs (gs g322 138 p1.toInt.toNat v6_97.toInt) 140 v6_97.toInt.toNat x424.toInt) h0 t_h0 p1   (by omega) (by rw [h137]; exact hC2)) ⟨callB_of 1 hA (al_A wd_5_160) rfl rfl rfl (hA _ wd_1_7) (hA _ wd_5_157) (by decide +kernel) ⟨Nat.le_trans (Nat.le_of_ble_eq_true rfl) (Nat.le_add_left 3 F), Nat.le_trans (Nat.le_of_ble_eq_true rfl) (Nat.le_add_left 100 L)⟩, hA _ wd_5_159, hA _ ws_51⟩ ⟨bl, recv_X9 hE hG t_h0, fun U hU9 hW9 => ⟨rfl, by rw [hU9]; exact hG, hE.go hS hU9 hW9⟩⟩ rfl rfl hl.1 rfl (lv_room (Nat.le_of_ble_eq_true rfl)) dX9_chooses_192 ⟨Nat.zero_le _, Nat.zero_le _⟩) hS (fun x430 u428 H locs w429 hG hS => ?_)
                          obtain ⟨eu431, w429⟩ := w429
                          rw [eu431] at hG
                          refine ty_if_eq (tgt := 219) hx hb dX9_chooses_195 (by decide) (fun c432 => ?_) (fun c432 => ?_)
                          · skip
                            refine lv_aload_n hx hb dX9_chooses_219 rfl (lv_at hl 3 rfl) ?_
                            refine get_X9_40 hx hb hA hown hE hG t_h0 wd_4_170 dX9_chooses_220 (fun b433 (t_b433 : ty Γ b433 140) => ?_)
                            refine lv_iload hx hb dX9_chooses_223 (lv_at hl 1 rfl) ?_
                            refine ty_iconst hx hb (0) dX9_chooses_225 (by decide) (fun x434 h435 => ?_)
                            refine ast_mZ hx hb hE hG hS hU 40 rfl (n := 9) rfl (lo := 0) (hi := 1) rfl rfl rfl t_b433 (by omega) (by omega) (by omega) dX9_chooses_226 (fun H locs hG hS => ?_)
                            obtain ⟨x436, h437⟩ : ∃ y : Int32, y = v6_97 + Int32.ofInt (1) := ⟨_, rfl⟩
                            try have h438 : x436.toInt = v6_97.toInt + (1) := ty_inc h437 (by decide) (by omega) (by omega)
                            refine lv_iinc (v := x436) (lv' := [(6, .int x436), (7, .int x419), (5, .int x7), (0, .ref h0), (1, .int p1), (2, .int p2), (3, .int p3), (4, .int p4)]) hx hb dX9_chooses_227 hl (k := 1) rfl h437.symm (by decide) rfl (fun ls hl => ?_)
                            refine lv_goto (tgt := 97) hx hb dX9_chooses_230 (by decide) ?_
                            have e439 : (gs (gs (gs g322 138 p1.toInt.toNat v6_97.toInt) 140 v6_97.toInt.toNat x424.toInt) 140 v6_97.toInt.toNat x434.toInt) 137 0 = g322 137 0 := by simp [gs]
                            exact ih_97 x436 (gs (gs (gs g322 138 p1.toInt.toNat v6_97.toInt) 140 v6_97.toInt.toNat x424.toInt) 140 v6_97.toInt.toNat x434.toInt) _ _ ls (by omega) (by omega) (fun c j h138 h139 h140 h141 h142 => by rw [gs_c _ _ _ _ h140, gs_c _ _ _ _ h140, gs_c _ _ _ _ h138, hf323 c j h138 h139 h140 h141 h142]) (fun i hi => by rw [gs_c _ _ _ _ (by decide), gs_c _ _ _ _ (by decide), gs_j _ _ _ _ hi]; exact hq0 i hi) (fun i => by by_cases hi : i = v6_97.toInt.toNat; (rw [hi, gs_self, ← hq1 v6_97.toInt.toNat]; omega); (rw [gs_j _ _ _ _ hi]; rw [gs_j _ _ _ _ hi, gs_c _ _ _ _ (by decide)]; exact hq1 i)) (BG_cg (by rw [gs_c _ _ _ _ (by decide), gs_c _ _ _ _ (by decide), gs_c _ _ _ _ (by decide)]) (fun i => by rw [gs_c _ _ _ _ (by decide), gs_c _ _ _ _ (by decide), gs_c _ _ _ _ (by decide)]) hq2) (fun h => by rw [gs_c _ _ _ _ (by decide), gs_c _ _ _ _ (by decide), gs_c _ _ _ _ (by decide)]; exact hq3 h) hG hS (lv_sub hl [0, 2, 3, 4, 5, 6, 7] rfl)
                          · skip
                            refine lv_aload_n hx hb dX9_chooses_198 rfl (lv_at hl 3 rfl) ?_
                            refine lv_iload_n hx hb dX9_chooses_199 rfl (lv_at hl 4 rfl) ?_
                            have e440 : (gs (gs g322 138 p1.toInt.toNat v6_97.toInt) 140 v6_97.toInt.toNat x424.toInt) 137 0 = g322 137 0 := by simp [gs]
                            refine cI (va_runV (C := RX9) (As := [.int p1]) (rest := []) ⟨hx, hb, hml, hown, hA⟩ (k_X9_isEven l dC dI dA sz X Γ hU (gs (gs g322 138 p1.toInt.toNat v6_97.toInt) 140 v6_97.toInt.toNat x424.toInt) h0 t_h0 p1   (by omega)) ⟨callB_of 1 hA (al_A wd_5_164) rfl rfl rfl (hA _ wd_1_7) (hA _ wd_5_161) (by decide +kernel) ⟨Nat.le_trans (Nat.le_of_ble_eq_true rfl) (Nat.le_add_left 3 F), Nat.le_trans (Nat.le_of_ble_eq_true rfl) (Nat.le_add_left 100 L)⟩, hA _ wd_5_163, hA _ ws_52⟩ ⟨bl, recv_X9 hE hG t_h0, fun U hU9 hW9 => ⟨rfl, by rw [hU9]; exact hG, hE.go hS hU9 hW9⟩⟩ rfl rfl hl.1 rfl (lv_room (Nat.le_of_ble_eq_true rfl)) dX9_chooses_200 ⟨Nat.zero_le _, Nat.zero_le _⟩) hS (fun x443 u441 H locs w442 hG hS => ?_)
                            obtain ⟨eu444, w442⟩ := w442
                            rw [eu444] at hG
                            refine ty_if_eq (tgt := 219) hx hb dX9_chooses_203 (by decide) (fun c445 => ?_) (fun c445 => ?_)
                            · skip
                              refine lv_aload_n hx hb dX9_chooses_219 rfl (lv_at hl 3 rfl) ?_
                              refine get_X9_40 hx hb hA hown hE hG t_h0 wd_4_170 dX9_chooses_220 (fun b446 (t_b446 : ty Γ b446 140) => ?_)
                              refine lv_iload hx hb dX9_chooses_223 (lv_at hl 1 rfl) ?_
                              refine ty_iconst hx hb (0) dX9_chooses_225 (by decide) (fun x447 h448 => ?_)
                              refine ast_mZ hx hb hE hG hS hU 40 rfl (n := 9) rfl (lo := 0) (hi := 1) rfl rfl rfl t_b446 (by omega) (by omega) (by omega) dX9_chooses_226 (fun H locs hG hS => ?_)
                              obtain ⟨x449, h450⟩ : ∃ y : Int32, y = v6_97 + Int32.ofInt (1) := ⟨_, rfl⟩
                              try have h451 : x449.toInt = v6_97.toInt + (1) := ty_inc h450 (by decide) (by omega) (by omega)
                              refine lv_iinc (v := x449) (lv' := [(6, .int x449), (7, .int x419), (5, .int x7), (0, .ref h0), (1, .int p1), (2, .int p2), (3, .int p3), (4, .int p4)]) hx hb dX9_chooses_227 hl (k := 1) rfl h450.symm (by decide) rfl (fun ls hl => ?_)
                              refine lv_goto (tgt := 97) hx hb dX9_chooses_230 (by decide) ?_
                              have e452 : (gs (gs (gs g322 138 p1.toInt.toNat v6_97.toInt) 140 v6_97.toInt.toNat x424.toInt) 140 v6_97.toInt.toNat x447.toInt) 137 0 = g322 137 0 := by simp [gs]
                              exact ih_97 x449 (gs (gs (gs g322 138 p1.toInt.toNat v6_97.toInt) 140 v6_97.toInt.toNat x424.toInt) 140 v6_97.toInt.toNat x447.toInt) _ _ ls (by omega) (by omega) (fun c j h138 h139 h140 h141 h142 => by rw [gs_c _ _ _ _ h140, gs_c _ _ _ _ h140, gs_c _ _ _ _ h138, hf323 c j h138 h139 h140 h141 h142]) (fun i hi => by rw [gs_c _ _ _ _ (by decide), gs_c _ _ _ _ (by decide), gs_j _ _ _ _ hi]; exact hq0 i hi) (fun i => by by_cases hi : i = v6_97.toInt.toNat; (rw [hi, gs_self, ← hq1 v6_97.toInt.toNat]; omega); (rw [gs_j _ _ _ _ hi]; rw [gs_j _ _ _ _ hi, gs_c _ _ _ _ (by decide)]; exact hq1 i)) (BG_cg (by rw [gs_c _ _ _ _ (by decide), gs_c _ _ _ _ (by decide), gs_c _ _ _ _ (by decide)]) (fun i => by rw [gs_c _ _ _ _ (by decide), gs_c _ _ _ _ (by decide), gs_c _ _ _ _ (by decide)]) hq2) (fun h => by rw [gs_c _ _ _ _ (by decide), gs_c _ _ _ _ (by decide), gs_c _ _ _ _ (by decide)]; exact hq3 h) hG hS (lv_sub hl [0, 2, 3, 4, 5, 6, 7] rfl)
                            · skip
                              refine lv_aload_n hx hb dX9_chooses_206 rfl (lv_at hl 3 rfl) ?_
                              refine lv_iload_n hx hb dX9_chooses_207 rfl (lv_at hl 4 rfl) ?_
                              refine ty_iconst hx hb (1) dX9_chooses_208 (by decide) (fun x453 h454 => ?_)
                              refine ty_iadd hx hb dX9_chooses_209 (fun x455 h456 => ?_)
                              try have h457 : x455.toInt = p1.toInt + x453.toInt := ty_add h456 (by omega) (by omega)
                              refine lv_iload_n hx hb dX9_chooses_210 rfl (lv_at hl 5 rfl) ?_
                              refine ty_iconst hx hb (1) dX9_chooses_211 (by decide) (fun x458 h459 => ?_)
                              refine ty_iadd hx hb dX9_chooses_212 (fun x460 h461 => ?_)
                              try have h462 : x460.toInt = p2.toInt + x458.toInt := ty_add h461 (by omega) (by omega)
                              refine lv_iload_n hx hb dX9_chooses_213 rfl (lv_at hl 6 rfl) ?_
                              refine lv_iload hx hb dX9_chooses_214 (lv_at hl 7 rfl) ?_
                              have e463 : (gs (gs g322 138 p1.toInt.toNat v6_97.toInt) 140 v6_97.toInt.toNat x424.toInt) 137 0 = g322 137 0 := by simp [gs]
                              have e464 : (gs (gs g322 138 p1.toInt.toNat v6_97.toInt) 140 v6_97.toInt.toNat x424.toInt) 137 0 = g322 137 0 := by simp [gs]
                              have e465 : (gs (gs g322 138 p1.toInt.toNat v6_97.toInt) 140 v6_97.toInt.toNat x424.toInt) 137 0 = g322 137 0 := by simp [gs]
                              refine cV (va_runV (C := RX9) (As := [.int x455, .int x460, .int p3, .int p4]) (rest := []) ⟨hx, hb, hml, hown, hA⟩ (IH l dC dI dA sz X Γ hU (gs (gs g322 138 p1.toInt.toNat v6_97.toInt) 140 v6_97.toInt.toNat x424.toInt) h0 t_h0 x455 x460 p3 p4   (by omega) (by rw [h137, show x455.toInt.toNat = p1.toInt.toNat + 1 by omega]; exact hC2) (by rw [h137]; exact BG_cg (by rw [gs_c _ _ _ _ (by decide), gs_c _ _ _ _ (by decide)]) (fun i => by rw [gs_c _ _ _ _ (by decide), gs_c _ _ _ _ (by decide)]) hq2)) ⟨callB_of 4 hA (al_A wd_5_152) rfl rfl rfl (hA _ wd_1_7) (hA _ wd_5_149) (by decide +kernel) ⟨Nat.add_le_add_left (by decide) F, show 8 + (8 + 11) + L ≤ L + 100 by omega⟩, hA _ wd_5_151, hA _ ws_49⟩ ⟨bl, recv_X9 hE hG t_h0, fun U hU9 hW9 => ⟨rfl, by rw [hU9]; exact hG, hE.go hS hU9 hW9⟩⟩ rfl rfl hl.1 rfl (lv_room (Nat.le_of_ble_eq_true rfl)) dX9_chooses_216 ⟨Nat.zero_le _, Nat.zero_le _⟩) hS (fun u466 H locs w467 hG hS => ?_)
                              obtain ⟨hf472, hq468, hq469, hq470, hq471⟩ := w467
                              refine lv_aload_n hx hb dX9_chooses_219 rfl (lv_at hl 3 rfl) ?_
                              refine get_X9_40 hx hb hA hown hE hG t_h0 wd_4_170 dX9_chooses_220 (fun b473 (t_b473 : ty Γ b473 140) => ?_)
                              refine lv_iload hx hb dX9_chooses_223 (lv_at hl 1 rfl) ?_
                              refine ty_iconst hx hb (0) dX9_chooses_225 (by decide) (fun x474 h475 => ?_)
                              refine ast_mZ hx hb hE hG hS hU 40 rfl (n := 9) rfl (lo := 0) (hi := 1) rfl rfl rfl t_b473 (by omega) (by omega) (by omega) dX9_chooses_226 (fun H locs hG hS => ?_)
                              obtain ⟨x476, h477⟩ : ∃ y : Int32, y = v6_97 + Int32.ofInt (1) := ⟨_, rfl⟩
                              try have h478 : x476.toInt = v6_97.toInt + (1) := ty_inc h477 (by decide) (by omega) (by omega)
                              refine lv_iinc (v := x476) (lv' := [(6, .int x476), (7, .int x419), (5, .int x7), (0, .ref h0), (1, .int p1), (2, .int p2), (3, .int p3), (4, .int p4)]) hx hb dX9_chooses_227 hl (k := 1) rfl h477.symm (by decide) rfl (fun ls hl => ?_)
                              refine lv_goto (tgt := 97) hx hb dX9_chooses_230 (by decide) ?_
                              have hk479 : u466 137 0 = (gs (gs g322 138 p1.toInt.toNat v6_97.toInt) 140 v6_97.toInt.toNat x424.toInt) 137 0 := hf472 137 0 (by decide) (by decide) (by decide) (by decide) (by decide)
                              have hk479 : u466 137 0 = g322 137 0 := by rw [hk479]; simp [gs]
                              have e480 : (gs u466 140 v6_97.toInt.toNat x474.toInt) 137 0 = u466 137 0 := by simp [gs]
                              exact ih_97 x476 (gs u466 140 v6_97.toInt.toNat x474.toInt) _ _ ls (by omega) (by omega) (fun c j h138 h139 h140 h141 h142 => by rw [gs_c _ _ _ _ h140, hf472 c j h138 h139 h140 h141 h142, gs_c _ _ _ _ h140, gs_c _ _ _ _ h138, hf323 c j h138 h139 h140 h141 h142]) (fun i hi => by rw [gs_c _ _ _ _ (by decide), hq468 i, gs_c _ _ _ _ (by decide), gs_j _ _ _ _ hi]; exact hq0 i hi) (fun i => by by_cases hi : i = v6_97.toInt.toNat; (rw [hi, gs_self, ← hq1 v6_97.toInt.toNat]; omega); (rw [gs_j _ _ _ _ hi]; rw [hq469 i, gs_j _ _ _ _ hi, gs_c _ _ _ _ (by decide)]; exact hq1 i)) (BG_cg (by rw [gs_c _ _ _ _ (by decide)]) (fun i => by rw [gs_c _ _ _ _ (by decide)]) (by have h9 := hq470; rw [h137] at h9; exact h9)) (fun h => by rw [gs_c _ _ _ _ (by decide)]; exact hq471 (Or.inl (by rw [gs_c _ _ _ _ (by decide), gs_c _ _ _ _ (by decide)]; exact hq3 h))) hG hS (lv_sub hl [0, 2, 3, 4, 5, 6, 7] rfl)
                        · exfalso; omega
                    · skip
                      refine lv_aload_n hx hb dX9_chooses_128 rfl (lv_at hl 2 rfl) ?_
                      refine get_X9_38 hx hb hA hown hE hG t_h0 wd_4_168 dX9_chooses_129 (fun b481 (t_b481 : ty Γ b481 138) => ?_)
                      refine lv_iload hx hb dX9_chooses_132 (lv_at hl 0 rfl) ?_
                      refine ald_mI hx hb hE hG 38 rfl (n := 9) rfl (lo := -2) (hi := 8) rfl rfl t_b481 (by omega) dX9_chooses_134 (fun j483 x482 h484 h485 h486 => ?_)
                      obtain rfl : j483 = v6_97.toInt.toNat := by omega
                      replace h485 : x482.toInt = g322 138 v6_97.toInt.toNat := h485
                      refine ty_iconst hx hb (-1) dX9_chooses_135 (by decide) (fun x487 h488 => ?_)
                      refine ty_icmp_eq (tgt := 163) hx hb dX9_chooses_136 (by decide) (fun c489 => ?_) (fun c489 => ?_)
                      · skip
                        refine ty_iconst hx hb (0) dX9_chooses_163 (by decide) (fun x490 h491 => ?_)
                        refine lv_istore (lv' := [(7, .int x490), (6, .int v6_97), (5, .int x7), (0, .ref h0), (1, .int p1), (2, .int p2), (3, .int p3), (4, .int p4)]) hx hb dX9_chooses_164 hl (by decide) rfl (fun ls hl => ?_)
                        refine lv_iload hx hb dX9_chooses_166 (lv_at hl 0 rfl) ?_
                        refine ty_if_ne (tgt := 174) hx hb dX9_chooses_168 (by decide) (fun c492 => ?_) (fun c492 => ?_)
                        · exfalso; omega
                        · skip
                          refine lv_goto (tgt := 227) hx hb dX9_chooses_171 (by decide) ?_
                          obtain ⟨x493, h494⟩ : ∃ y : Int32, y = v6_97 + Int32.ofInt (1) := ⟨_, rfl⟩
                          try have h495 : x493.toInt = v6_97.toInt + (1) := ty_inc h494 (by decide) (by omega) (by omega)
                          refine lv_iinc (v := x493) (lv' := [(6, .int x493), (7, .int x490), (5, .int x7), (0, .ref h0), (1, .int p1), (2, .int p2), (3, .int p3), (4, .int p4)]) hx hb dX9_chooses_227 hl (k := 1) rfl h494.symm (by decide) rfl (fun ls hl => ?_)
                          refine lv_goto (tgt := 97) hx hb dX9_chooses_230 (by decide) ?_
                          exact ih_97 x493 g322 _ _ ls (by omega) (by omega) (fun c j h138 h139 h140 h141 h142 => by rw [hf323 c j h138 h139 h140 h141 h142]) (hq0) (hq1) (hq2) (hq3) hG hS (lv_sub hl [0, 2, 3, 4, 5, 6, 7] rfl)
                      · skip
                        refine lv_aload_n hx hb dX9_chooses_139 rfl (lv_at hl 2 rfl) ?_
                        refine lv_aload_n hx hb dX9_chooses_140 rfl (lv_at hl 2 rfl) ?_
                        refine get_X9_36 hx hb hA hown hE hG t_h0 wd_4_166 dX9_chooses_141 (fun b496 (t_b496 : ty Γ b496 136) => ?_)
                        refine lv_iload hx hb dX9_chooses_144 (lv_at hl 0 rfl) ?_
                        refine ald_mI hx hb hE hG 36 rfl (n := 9) rfl (lo := 0) (hi := 199) rfl rfl t_b496 (by omega) dX9_chooses_146 (fun j498 x497 h499 h500 h501 => ?_)
                        obtain rfl : j498 = v6_97.toInt.toNat := by omega
                        replace h500 : x497.toInt = g322 136 v6_97.toInt.toNat := h500
                        refine lv_aload_n hx hb dX9_chooses_147 rfl (lv_at hl 2 rfl) ?_
                        refine get_X9_36 hx hb hA hown hE hG t_h0 wd_4_166 dX9_chooses_148 (fun b502 (t_b502 : ty Γ b502 136) => ?_)
                        refine lv_iload_n hx hb dX9_chooses_151 rfl (lv_at hl 3 rfl) ?_
                        refine ald_mI hx hb hE hG 36 rfl (n := 9) rfl (lo := 0) (hi := 199) rfl rfl t_b502 (by omega) dX9_chooses_152 (fun j504 x503 h505 h506 h507 => ?_)
                        obtain rfl : j504 = p1.toInt.toNat := by omega
                        replace h506 : x503.toInt = g322 136 p1.toInt.toNat := h506
                        refine cI (va_runV (C := RX9) (As := [.int x497, .int x503]) (rest := []) ⟨hx, hb, hml, hown, hA⟩ (k_X9_meets l dC dI dA sz X Γ hU g322 h0 t_h0 x497 x503   (by omega)) ⟨callB_of 2 hA (al_A wd_5_156) rfl rfl rfl (hA _ wd_1_7) (hA _ wd_5_153) (by decide +kernel) ⟨Nat.le_trans (Nat.le_of_ble_eq_true rfl) (Nat.le_add_left 3 F), Nat.le_trans (Nat.le_of_ble_eq_true rfl) (Nat.le_add_left 100 L)⟩, hA _ wd_5_155, hA _ ws_50⟩ ⟨bl, recv_X9 hE hG t_h0, fun U hU9 hW9 => ⟨rfl, by rw [hU9]; exact hG, hE.go hS hU9 hW9⟩⟩ rfl rfl hl.1 rfl (lv_room (Nat.le_of_ble_eq_true rfl)) dX9_chooses_153 ⟨Nat.zero_le _, Nat.zero_le _⟩) hS (fun x510 u508 H locs w509 hG hS => ?_)
                        obtain ⟨eu511, w509⟩ := w509
                        rw [eu511] at hG
                        refine ty_if_eq (tgt := 163) hx hb dX9_chooses_156 (by decide) (fun c512 => ?_) (fun c512 => ?_)
                        · skip
                          refine ty_iconst hx hb (0) dX9_chooses_163 (by decide) (fun x513 h514 => ?_)
                          refine lv_istore (lv' := [(7, .int x513), (6, .int v6_97), (5, .int x7), (0, .ref h0), (1, .int p1), (2, .int p2), (3, .int p3), (4, .int p4)]) hx hb dX9_chooses_164 hl (by decide) rfl (fun ls hl => ?_)
                          refine lv_iload hx hb dX9_chooses_166 (lv_at hl 0 rfl) ?_
                          refine ty_if_ne (tgt := 174) hx hb dX9_chooses_168 (by decide) (fun c515 => ?_) (fun c515 => ?_)
                          · exfalso; omega
                          · skip
                            refine lv_goto (tgt := 227) hx hb dX9_chooses_171 (by decide) ?_
                            obtain ⟨x516, h517⟩ : ∃ y : Int32, y = v6_97 + Int32.ofInt (1) := ⟨_, rfl⟩
                            try have h518 : x516.toInt = v6_97.toInt + (1) := ty_inc h517 (by decide) (by omega) (by omega)
                            refine lv_iinc (v := x516) (lv' := [(6, .int x516), (7, .int x513), (5, .int x7), (0, .ref h0), (1, .int p1), (2, .int p2), (3, .int p3), (4, .int p4)]) hx hb dX9_chooses_227 hl (k := 1) rfl h517.symm (by decide) rfl (fun ls hl => ?_)
                            refine lv_goto (tgt := 97) hx hb dX9_chooses_230 (by decide) ?_
                            exact ih_97 x516 g322 _ _ ls (by omega) (by omega) (fun c j h138 h139 h140 h141 h142 => by rw [hf323 c j h138 h139 h140 h141 h142]) (hq0) (hq1) (hq2) (hq3) hG hS (lv_sub hl [0, 2, 3, 4, 5, 6, 7] rfl)
                        · skip
                          refine ty_iconst hx hb (1) dX9_chooses_159 (by decide) (fun x519 h520 => ?_)
                          refine lv_goto (tgt := 164) hx hb dX9_chooses_160 (by decide) ?_
                          refine lv_istore (lv' := [(7, .int x519), (6, .int v6_97), (5, .int x7), (0, .ref h0), (1, .int p1), (2, .int p2), (3, .int p3), (4, .int p4)]) hx hb dX9_chooses_164 hl (by decide) rfl (fun ls hl => ?_)
                          refine lv_iload hx hb dX9_chooses_166 (lv_at hl 0 rfl) ?_
                          refine ty_if_ne (tgt := 174) hx hb dX9_chooses_168 (by decide) (fun c521 => ?_) (fun c521 => ?_)
                          · skip
                            refine lv_aload_n hx hb dX9_chooses_174 rfl (lv_at hl 3 rfl) ?_
                            refine get_X9_38 hx hb hA hown hE hG t_h0 wd_4_168 dX9_chooses_175 (fun b522 (t_b522 : ty Γ b522 138) => ?_)
                            refine lv_iload_n hx hb dX9_chooses_178 rfl (lv_at hl 4 rfl) ?_
                            refine lv_iload hx hb dX9_chooses_179 (lv_at hl 1 rfl) ?_
                            refine ast_mI hx hb hE hG hS hU 38 rfl (n := 9) rfl (lo := -2) (hi := 8) rfl rfl rfl t_b522 (by omega) (by omega) dX9_chooses_181 (fun H locs hG hS => ?_)
                            refine lv_aload_n hx hb dX9_chooses_182 rfl (lv_at hl 3 rfl) ?_
                            refine get_X9_40 hx hb hA hown hE hG t_h0 wd_4_170 dX9_chooses_183 (fun b523 (t_b523 : ty Γ b523 140) => ?_)
                            refine lv_iload hx hb dX9_chooses_186 (lv_at hl 1 rfl) ?_
                            refine ty_iconst hx hb (1) dX9_chooses_188 (by decide) (fun x524 h525 => ?_)
                            refine ast_mZ hx hb hE hG hS hU 40 rfl (n := 9) rfl (lo := 0) (hi := 1) rfl rfl rfl t_b523 (by omega) (by omega) (by omega) dX9_chooses_189 (fun H locs hG hS => ?_)
                            have hz9 := hq1 v6_97.toInt.toNat
                            have hy9 := hq0 v6_97.toInt.toNat (by omega)
                            have h137 : (gs (gs g322 138 p1.toInt.toNat v6_97.toInt) 140 v6_97.toInt.toNat x524.toInt) 137 0 = g 137 0 := by rw [gs_c _ _ _ _ (by decide), gs_c _ _ _ _ (by decide), hf323 137 0 (by decide) (by decide) (by decide) (by decide) (by decide)]
                            have hC2 : CH (gs (gs g322 138 p1.toInt.toNat v6_97.toInt) 140 v6_97.toInt.toNat x524.toInt) (g 137 0).toNat (p1.toInt.toNat + 1) := CH_get hC (by omega) (J := v6_97.toInt.toNat) (by omega) (by omega) (by omega) (by omega) (by rw [gs_c _ _ _ _ (by decide), gs_self]; omega) (fun i hi => by rw [gs_c _ _ _ _ (by decide), gs_j _ _ _ _ hi]; exact hq0 i hi) (by rw [gs_self]; omega) (fun i hi => by rw [gs_j _ _ _ _ hi, gs_c _ _ _ _ (by decide)]; exact hq1 i)
                            refine lv_aload_n hx hb dX9_chooses_190 rfl (lv_at hl 3 rfl) ?_
                            refine lv_iload_n hx hb dX9_chooses_191 rfl (lv_at hl 4 rfl) ?_
                            have e526 : (gs (gs g322 138 p1.toInt.toNat v6_97.toInt) 140 v6_97.toInt.toNat x524.toInt) 137 0 = g322 137 0 := by simp [gs]
                            have e527 : (gs (gs g322 138 p1.toInt.toNat v6_97.toInt) 140 v6_97.toInt.toNat x524.toInt) 137 0 = g322 137 0 := by simp [gs]
                            refine cI (va_runV (C := RX9) (As := [.int p1]) (rest := []) ⟨hx, hb, hml, hown, hA⟩ (k_X9_isShort l dC dI dA sz X Γ hU (gs (gs g322 138 p1.toInt.toNat v6_97.toInt) 140 v6_97.toInt.toNat x524.toInt) h0 t_h0 p1   (by omega) (by rw [h137]; exact hC2)) ⟨callB_of 1 hA (al_A wd_5_160) rfl rfl rfl (hA _ wd_1_7) (hA _ wd_5_157) (by decide +kernel) ⟨Nat.le_trans (Nat.le_of_ble_eq_true rfl) (Nat.le_add_left 3 F), Nat.le_trans (Nat.le_of_ble_eq_true rfl) (Nat.le_add_left 100 L)⟩, hA _ wd_5_159, hA _ ws_51⟩ ⟨bl, recv_X9 hE hG t_h0, fun U hU9 hW9 => ⟨rfl, by rw [hU9]; exact hG, hE.go hS hU9 hW9⟩⟩ rfl rfl hl.1 rfl (lv_room (Nat.le_of_ble_eq_true rfl)) dX9_chooses_192 ⟨Nat.zero_le _, Nat.zero_le _⟩) hS (fun x530 u528 H locs w529 hG hS => ?_)
                            obtain ⟨eu531, w529⟩ := w529
                            rw [eu531] at hG
                            refine ty_if_eq (tgt := 219) hx hb dX9_chooses_195 (by decide) (fun c532 => ?_) (fun c532 => ?_)
                            · skip
                              refine lv_aload_n hx hb dX9_chooses_219 rfl (lv_at hl 3 rfl) ?_
                              refine get_X9_40 hx hb hA hown hE hG t_h0 wd_4_170 dX9_chooses_220 (fun b533 (t_b533 : ty Γ b533 140) => ?_)
                              refine lv_iload hx hb dX9_chooses_223 (lv_at hl 1 rfl) ?_
                              refine ty_iconst hx hb (0) dX9_chooses_225 (by decide) (fun x534 h535 => ?_)
                              refine ast_mZ hx hb hE hG hS hU 40 rfl (n := 9) rfl (lo := 0) (hi := 1) rfl rfl rfl t_b533 (by omega) (by omega) (by omega) dX9_chooses_226 (fun H locs hG hS => ?_)
                              obtain ⟨x536, h537⟩ : ∃ y : Int32, y = v6_97 + Int32.ofInt (1) := ⟨_, rfl⟩
                              try have h538 : x536.toInt = v6_97.toInt + (1) := ty_inc h537 (by decide) (by omega) (by omega)
                              refine lv_iinc (v := x536) (lv' := [(6, .int x536), (7, .int x519), (5, .int x7), (0, .ref h0), (1, .int p1), (2, .int p2), (3, .int p3), (4, .int p4)]) hx hb dX9_chooses_227 hl (k := 1) rfl h537.symm (by decide) rfl (fun ls hl => ?_)
                              refine lv_goto (tgt := 97) hx hb dX9_chooses_230 (by decide) ?_
                              have e539 : (gs (gs (gs g322 138 p1.toInt.toNat v6_97.toInt) 140 v6_97.toInt.toNat x524.toInt) 140 v6_97.toInt.toNat x534.toInt) 137 0 = g322 137 0 := by simp [gs]
                              exact ih_97 x536 (gs (gs (gs g322 138 p1.toInt.toNat v6_97.toInt) 140 v6_97.toInt.toNat x524.toInt) 140 v6_97.toInt.toNat x534.toInt) _ _ ls (by omega) (by omega) (fun c j h138 h139 h140 h141 h142 => by rw [gs_c _ _ _ _ h140, gs_c _ _ _ _ h140, gs_c _ _ _ _ h138, hf323 c j h138 h139 h140 h141 h142]) (fun i hi => by rw [gs_c _ _ _ _ (by decide), gs_c _ _ _ _ (by decide), gs_j _ _ _ _ hi]; exact hq0 i hi) (fun i => by by_cases hi : i = v6_97.toInt.toNat; (rw [hi, gs_self, ← hq1 v6_97.toInt.toNat]; omega); (rw [gs_j _ _ _ _ hi]; rw [gs_j _ _ _ _ hi, gs_c _ _ _ _ (by decide)]; exact hq1 i)) (BG_cg (by rw [gs_c _ _ _ _ (by decide), gs_c _ _ _ _ (by decide), gs_c _ _ _ _ (by decide)]) (fun i => by rw [gs_c _ _ _ _ (by decide), gs_c _ _ _ _ (by decide), gs_c _ _ _ _ (by decide)]) hq2) (fun h => by rw [gs_c _ _ _ _ (by decide), gs_c _ _ _ _ (by decide), gs_c _ _ _ _ (by decide)]; exact hq3 h) hG hS (lv_sub hl [0, 2, 3, 4, 5, 6, 7] rfl)
                            · skip
                              refine lv_aload_n hx hb dX9_chooses_198 rfl (lv_at hl 3 rfl) ?_
                              refine lv_iload_n hx hb dX9_chooses_199 rfl (lv_at hl 4 rfl) ?_
                              have e540 : (gs (gs g322 138 p1.toInt.toNat v6_97.toInt) 140 v6_97.toInt.toNat x524.toInt) 137 0 = g322 137 0 := by simp [gs]
                              refine cI (va_runV (C := RX9) (As := [.int p1]) (rest := []) ⟨hx, hb, hml, hown, hA⟩ (k_X9_isEven l dC dI dA sz X Γ hU (gs (gs g322 138 p1.toInt.toNat v6_97.toInt) 140 v6_97.toInt.toNat x524.toInt) h0 t_h0 p1   (by omega)) ⟨callB_of 1 hA (al_A wd_5_164) rfl rfl rfl (hA _ wd_1_7) (hA _ wd_5_161) (by decide +kernel) ⟨Nat.le_trans (Nat.le_of_ble_eq_true rfl) (Nat.le_add_left 3 F), Nat.le_trans (Nat.le_of_ble_eq_true rfl) (Nat.le_add_left 100 L)⟩, hA _ wd_5_163, hA _ ws_52⟩ ⟨bl, recv_X9 hE hG t_h0, fun U hU9 hW9 => ⟨rfl, by rw [hU9]; exact hG, hE.go hS hU9 hW9⟩⟩ rfl rfl hl.1 rfl (lv_room (Nat.le_of_ble_eq_true rfl)) dX9_chooses_200 ⟨Nat.zero_le _, Nat.zero_le _⟩) hS (fun x543 u541 H locs w542 hG hS => ?_)
                              obtain ⟨eu544, w542⟩ := w542
                              rw [eu544] at hG
                              refine ty_if_eq (tgt := 219) hx hb dX9_chooses_203 (by decide) (fun c545 => ?_) (fun c545 => ?_)
                              · skip
                                refine lv_aload_n hx hb dX9_chooses_219 rfl (lv_at hl 3 rfl) ?_
                                refine get_X9_40 hx hb hA hown hE hG t_h0 wd_4_170 dX9_chooses_220 (fun b546 (t_b546 : ty Γ b546 140) => ?_)
                                refine lv_iload hx hb dX9_chooses_223 (lv_at hl 1 rfl) ?_
                                refine ty_iconst hx hb (0) dX9_chooses_225 (by decide) (fun x547 h548 => ?_)
                                refine ast_mZ hx hb hE hG hS hU 40 rfl (n := 9) rfl (lo := 0) (hi := 1) rfl rfl rfl t_b546 (by omega) (by omega) (by omega) dX9_chooses_226 (fun H locs hG hS => ?_)
                                obtain ⟨x549, h550⟩ : ∃ y : Int32, y = v6_97 + Int32.ofInt (1) := ⟨_, rfl⟩
                                try have h551 : x549.toInt = v6_97.toInt + (1) := ty_inc h550 (by decide) (by omega) (by omega)
                                refine lv_iinc (v := x549) (lv' := [(6, .int x549), (7, .int x519), (5, .int x7), (0, .ref h0), (1, .int p1), (2, .int p2), (3, .int p3), (4, .int p4)]) hx hb dX9_chooses_227 hl (k := 1) rfl h550.symm (by decide) rfl (fun ls hl => ?_)
                                refine lv_goto (tgt := 97) hx hb dX9_chooses_230 (by decide) ?_
                                have e552 : (gs (gs (gs g322 138 p1.toInt.toNat v6_97.toInt) 140 v6_97.toInt.toNat x524.toInt) 140 v6_97.toInt.toNat x547.toInt) 137 0 = g322 137 0 := by simp [gs]
                                exact ih_97 x549 (gs (gs (gs g322 138 p1.toInt.toNat v6_97.toInt) 140 v6_97.toInt.toNat x524.toInt) 140 v6_97.toInt.toNat x547.toInt) _ _ ls (by omega) (by omega) (fun c j h138 h139 h140 h141 h142 => by rw [gs_c _ _ _ _ h140, gs_c _ _ _ _ h140, gs_c _ _ _ _ h138, hf323 c j h138 h139 h140 h141 h142]) (fun i hi => by rw [gs_c _ _ _ _ (by decide), gs_c _ _ _ _ (by decide), gs_j _ _ _ _ hi]; exact hq0 i hi) (fun i => by by_cases hi : i = v6_97.toInt.toNat; (rw [hi, gs_self, ← hq1 v6_97.toInt.toNat]; omega); (rw [gs_j _ _ _ _ hi]; rw [gs_j _ _ _ _ hi, gs_c _ _ _ _ (by decide)]; exact hq1 i)) (BG_cg (by rw [gs_c _ _ _ _ (by decide), gs_c _ _ _ _ (by decide), gs_c _ _ _ _ (by decide)]) (fun i => by rw [gs_c _ _ _ _ (by decide), gs_c _ _ _ _ (by decide), gs_c _ _ _ _ (by decide)]) hq2) (fun h => by rw [gs_c _ _ _ _ (by decide), gs_c _ _ _ _ (by decide), gs_c _ _ _ _ (by decide)]; exact hq3 h) hG hS (lv_sub hl [0, 2, 3, 4, 5, 6, 7] rfl)
                              · skip
                                refine lv_aload_n hx hb dX9_chooses_206 rfl (lv_at hl 3 rfl) ?_
                                refine lv_iload_n hx hb dX9_chooses_207 rfl (lv_at hl 4 rfl) ?_
                                refine ty_iconst hx hb (1) dX9_chooses_208 (by decide) (fun x553 h554 => ?_)
                                refine ty_iadd hx hb dX9_chooses_209 (fun x555 h556 => ?_)
                                try have h557 : x555.toInt = p1.toInt + x553.toInt := ty_add h556 (by omega) (by omega)
                                refine lv_iload_n hx hb dX9_chooses_210 rfl (lv_at hl 5 rfl) ?_
                                refine ty_iconst hx hb (1) dX9_chooses_211 (by decide) (fun x558 h559 => ?_)
                                refine ty_iadd hx hb dX9_chooses_212 (fun x560 h561 => ?_)
                                try have h562 : x560.toInt = p2.toInt + x558.toInt := ty_add h561 (by omega) (by omega)
                                refine lv_iload_n hx hb dX9_chooses_213 rfl (lv_at hl 6 rfl) ?_
                                refine lv_iload hx hb dX9_chooses_214 (lv_at hl 7 rfl) ?_
                                have e563 : (gs (gs g322 138 p1.toInt.toNat v6_97.toInt) 140 v6_97.toInt.toNat x524.toInt) 137 0 = g322 137 0 := by simp [gs]
                                have e564 : (gs (gs g322 138 p1.toInt.toNat v6_97.toInt) 140 v6_97.toInt.toNat x524.toInt) 137 0 = g322 137 0 := by simp [gs]
                                have e565 : (gs (gs g322 138 p1.toInt.toNat v6_97.toInt) 140 v6_97.toInt.toNat x524.toInt) 137 0 = g322 137 0 := by simp [gs]
                                refine cV (va_runV (C := RX9) (As := [.int x555, .int x560, .int p3, .int p4]) (rest := []) ⟨hx, hb, hml, hown, hA⟩ (IH l dC dI dA sz X Γ hU (gs (gs g322 138 p1.toInt.toNat v6_97.toInt) 140 v6_97.toInt.toNat x524.toInt) h0 t_h0 x555 x560 p3 p4   (by omega) (by rw [h137, show x555.toInt.toNat = p1.toInt.toNat + 1 by omega]; exact hC2) (by rw [h137]; exact BG_cg (by rw [gs_c _ _ _ _ (by decide), gs_c _ _ _ _ (by decide)]) (fun i => by rw [gs_c _ _ _ _ (by decide), gs_c _ _ _ _ (by decide)]) hq2)) ⟨callB_of 4 hA (al_A wd_5_152) rfl rfl rfl (hA _ wd_1_7) (hA _ wd_5_149) (by decide +kernel) ⟨Nat.add_le_add_left (by decide) F, show 8 + (8 + 11) + L ≤ L + 100 by omega⟩, hA _ wd_5_151, hA _ ws_49⟩ ⟨bl, recv_X9 hE hG t_h0, fun U hU9 hW9 => ⟨rfl, by rw [hU9]; exact hG, hE.go hS hU9 hW9⟩⟩ rfl rfl hl.1 rfl (lv_room (Nat.le_of_ble_eq_true rfl)) dX9_chooses_216 ⟨Nat.zero_le _, Nat.zero_le _⟩) hS (fun u566 H locs w567 hG hS => ?_)
                                obtain ⟨hf572, hq568, hq569, hq570, hq571⟩ := w567
                                refine lv_aload_n hx hb dX9_chooses_219 rfl (lv_at hl 3 rfl) ?_
                                refine get_X9_40 hx hb hA hown hE hG t_h0 wd_4_170 dX9_chooses_220 (fun b573 (t_b573 : ty Γ b573 140) => ?_)
                                refine lv_iload hx hb dX9_chooses_223 (lv_at hl 1 rfl) ?_
                                refine ty_iconst hx hb (0) dX9_chooses_225 (by decide) (fun x574 h575 => ?_)
                                refine ast_mZ hx hb hE hG hS hU 40 rfl (n := 9) rfl (lo := 0) (hi := 1) rfl rfl rfl t_b573 (by omega) (by omega) (by omega) dX9_chooses_226 (fun H locs hG hS => ?_)
                                obtain ⟨x576, h577⟩ : ∃ y : Int32, y = v6_97 + Int32.ofInt (1) := ⟨_, rfl⟩
                                try have h578 : x576.toInt = v6_97.toInt + (1) := ty_inc h577 (by decide) (by omega) (by omega)
                                refine lv_iinc (v := x576) (lv' := [(6, .int x576), (7, .int x519), (5, .int x7), (0, .ref h0), (1, .int p1), (2, .int p2), (3, .int p3), (4, .int p4)]) hx hb dX9_chooses_227 hl (k := 1) rfl h577.symm (by decide) rfl (fun ls hl => ?_)
                                refine lv_goto (tgt := 97) hx hb dX9_chooses_230 (by decide) ?_
                                have hk579 : u566 137 0 = (gs (gs g322 138 p1.toInt.toNat v6_97.toInt) 140 v6_97.toInt.toNat x524.toInt) 137 0 := hf572 137 0 (by decide) (by decide) (by decide) (by decide) (by decide)
                                have hk579 : u566 137 0 = g322 137 0 := by rw [hk579]; simp [gs]
                                have e580 : (gs u566 140 v6_97.toInt.toNat x574.toInt) 137 0 = u566 137 0 := by simp [gs]
                                exact ih_97 x576 (gs u566 140 v6_97.toInt.toNat x574.toInt) _ _ ls (by omega) (by omega) (fun c j h138 h139 h140 h141 h142 => by rw [gs_c _ _ _ _ h140, hf572 c j h138 h139 h140 h141 h142, gs_c _ _ _ _ h140, gs_c _ _ _ _ h138, hf323 c j h138 h139 h140 h141 h142]) (fun i hi => by rw [gs_c _ _ _ _ (by decide), hq568 i, gs_c _ _ _ _ (by decide), gs_j _ _ _ _ hi]; exact hq0 i hi) (fun i => by by_cases hi : i = v6_97.toInt.toNat; (rw [hi, gs_self, ← hq1 v6_97.toInt.toNat]; omega); (rw [gs_j _ _ _ _ hi]; rw [hq569 i, gs_j _ _ _ _ hi, gs_c _ _ _ _ (by decide)]; exact hq1 i)) (BG_cg (by rw [gs_c _ _ _ _ (by decide)]) (fun i => by rw [gs_c _ _ _ _ (by decide)]) (by have h9 := hq570; rw [h137] at h9; exact h9)) (fun h => by rw [gs_c _ _ _ _ (by decide)]; exact hq571 (Or.inl (by rw [gs_c _ _ _ _ (by decide), gs_c _ _ _ _ (by decide)]; exact hq3 h))) hG hS (lv_sub hl [0, 2, 3, 4, 5, 6, 7] rfl)
                          · exfalso; omega
          exact L_97 ((g 137 0 - x320.toInt) + 1).toNat x320 g _ _ ls (by omega) (by omega) (fun c j _ _ _ _ _ => rfl) (fun i hi => rfl) (fun i => rfl) (hB) (fun h => h) hG hS (lv_sub hl [0, 1, 2, 3, 4, 5, 6] rfl)
        · skip
          refine lv_aload_n hx hb dX9_chooses_48 rfl (lv_at hl 1 rfl) ?_
          refine lv_iload_n hx hb dX9_chooses_49 rfl (lv_at hl 3 rfl) ?_
          refine put_X9_41 hx hb hA hown hE hG hS hU t_h0 wd_4_171 dX9_chooses_50 (fun H locs hG hS => ?_)
          refine lv_aload_n hx hb dX9_chooses_53 rfl (lv_at hl 1 rfl) ?_
          refine lv_iload hx hb dX9_chooses_54 (lv_at hl 5 rfl) ?_
          refine lv_iload_n hx hb dX9_chooses_56 rfl (lv_at hl 4 rfl) ?_
          refine ty_isub hx hb dX9_chooses_57 (fun x581 h582 => ?_)
          try have h583 : x581.toInt = p4.toInt - p3.toInt := ty_sub h582 (by omega) (by omega)
          refine put_X9_42 hx hb hA hown hE hG hS hU t_h0 wd_4_172 dX9_chooses_58 (fun H locs hG hS => ?_)
          refine ty_iconst hx hb (0) dX9_chooses_61 (by decide) (fun x584 h585 => ?_)
          refine lv_istore (lv' := [(6, .int x584), (5, .int x7), (0, .ref h0), (1, .int p1), (2, .int p2), (3, .int p3), (4, .int p4)]) hx hb dX9_chooses_62 hl (by decide) rfl (fun ls hl => ?_)
          have e587 : (gs (gs g 141 0 p2.toInt) 142 0 x581.toInt) 137 0 = g 137 0 := by simp [gs]
          have L_64 : ∀ (n : Nat) (v6_64 : Int32) (g586 : gh) (H : Heap) (locs : List Loc) (ls : Array Slot), (g586 137 0 - v6_64.toInt : Int) < n → 0 ≤ v6_64.toInt ∧ v6_64.toInt ≤ g586 137 0 → (∀ c j : Nat, c ≠ 139 → g586 c j = (gs (gs g 141 0 p2.toInt) 142 0 x581.toInt) c j) → (∀ i : Nat, (i : Int) < v6_64.toInt → g586 139 i = g 138 i) → ty_ok (dC, dI) vwCl Γ (TP dA Γ g586) sz X H → va_S (ty_A sz) s.heap H locs → lv_has ls 8 [(6, .int v6_64), (5, .int x7), (0, .ref h0), (1, .int p1), (2, .int p2), (3, .int p3), (4, .int p4)] → W p l e (headSpec (.code yX9_chooses cX9_chooses 8 (Option.none : Option Jvm.ClassFile.FieldType) :: AL) ({ frames := F + 3, cells := 0, slots := 0, locals := L + 100 })).room s m ([.ref h0, .int p1, .int p2, .int p3, .int p4] : List Value).toArray below meth c H locs 0 0 (MQ below (va_Qv (fun (u : gh) => (∀ c j : Nat, c ≠ 138 → c ≠ 139 → c ≠ 140 → c ≠ 141 → c ≠ 142 → u c j = g c j) ∧ (∀ i : Nat, u 138 i = g 138 i) ∧ (∀ i : Nat, u 140 i = g 140 i) ∧ (BG u (g 137 0).toNat) ∧ ((0 ≤ g 141 0 ∨ ∀ j : Nat, j < (g 137 0).toNat → g 140 j ≠ 1) → 0 ≤ u 141 0)) (okb dC dI dA sz X Γ) (ty_A sz)) ([.ref h0, .int p1, .int p2, .int p3, .int p4] : List Value).toArray s 0 0 (ty_A sz)) (F0 m 64 ls []) := by
            intro n
            induction n with
            | zero => intro v6_64 g586 H locs ls hm hi0 hf588 hq0 hG hS hl; exfalso; omega
            | succ n ih_64 =>
              intro v6_64 g586 H locs ls hm hi0 hf588 hq0 hG hS hl
              have hk589 : g586 137 0 = (gs (gs g 141 0 p2.toInt) 142 0 x581.toInt) 137 0 := hf588 137 0 (by decide)
              have hk589 : g586 137 0 = g 137 0 := by rw [hk589]; simp [gs]
              refine lv_iload hx hb dX9_chooses_64 (lv_at hl 0 rfl) ?_
              refine lv_aload_n hx hb dX9_chooses_66 rfl (lv_at hl 2 rfl) ?_
              refine get_X9_37 hx hb hA hown hE hG t_h0 wd_4_167 dX9_chooses_67 (fun x590 h591 => ?_)
              refine ty_icmp_ge (tgt := 93) hx hb dX9_chooses_70 (by decide) (fun c593 => ?_) (fun c593 => ?_)
              · skip
                have hr594 : g586 141 = (gs g 141 0 p2.toInt) 141 := funext fun j => by rw [hf588 141 j (by decide), gs_c _ _ _ _ (by decide)]
                exact W.vret hx hb hr (fun t ht hW => ⟨⟨g586, rfl, ⟨(fun c j h138 h139 h140 h141 h142 => by rw [hf588 c j h139, gs_c _ _ _ _ h142, gs_c _ _ _ _ h141]), (fun i => by rw [hf588 138 i (by decide), gs_c _ _ _ _ (by decide), gs_c _ _ _ _ (by decide)]), (fun i => by rw [hf588 140 i (by decide), gs_c _ _ _ _ (by decide), gs_c _ _ _ _ (by decide)]), (BG_leaf (g := g) (by have h9 := hC; rw [show p1.toInt.toNat = (g 137 0).toNat by omega] at h9; exact h9) (fun i hi => hq0 i (by omega))), (fun _ => by rw [hr594, gs_self]; omega)⟩, ok1 ht hG⟩, hS.F ht⟩) hS.2.2 dX9_chooses_93
              · skip
                refine lv_aload_n hx hb dX9_chooses_73 rfl (lv_at hl 2 rfl) ?_
                refine get_X9_39 hx hb hA hown hE hG t_h0 wd_4_169 dX9_chooses_74 (fun b595 (t_b595 : ty Γ b595 139) => ?_)
                refine lv_iload hx hb dX9_chooses_77 (lv_at hl 0 rfl) ?_
                refine lv_aload_n hx hb dX9_chooses_79 rfl (lv_at hl 2 rfl) ?_
                refine get_X9_38 hx hb hA hown hE hG t_h0 wd_4_168 dX9_chooses_80 (fun b596 (t_b596 : ty Γ b596 138) => ?_)
                refine lv_iload hx hb dX9_chooses_83 (lv_at hl 0 rfl) ?_
                refine ald_mI hx hb hE hG 38 rfl (n := 9) rfl (lo := -2) (hi := 8) rfl rfl t_b596 (by omega) dX9_chooses_85 (fun j598 x597 h599 h600 h601 => ?_)
                obtain rfl : j598 = v6_64.toInt.toNat := by omega
                replace h600 : x597.toInt = g586 138 v6_64.toInt.toNat := h600
                have hR9 : g586 138 v6_64.toInt.toNat = g 138 v6_64.toInt.toNat := by rw [hf588 138 v6_64.toInt.toNat (by decide), gs_c _ _ _ _ (by decide), gs_c _ _ _ _ (by decide)]
                have hA9 := (hC.1 v6_64.toInt.toNat (by omega)).1
                refine ast_mI hx hb hE hG hS hU 39 rfl (n := 9) rfl (lo := -1) (hi := 8) rfl rfl rfl t_b595 (by omega) (by omega) dX9_chooses_86 (fun H locs hG hS => ?_)
                obtain ⟨x602, h603⟩ : ∃ y : Int32, y = v6_64 + Int32.ofInt (1) := ⟨_, rfl⟩
                try have h604 : x602.toInt = v6_64.toInt + (1) := ty_inc h603 (by decide) (by omega) (by omega)
                refine lv_iinc (v := x602) (lv' := [(6, .int x602), (5, .int x7), (0, .ref h0), (1, .int p1), (2, .int p2), (3, .int p3), (4, .int p4)]) hx hb dX9_chooses_87 hl (k := 0) rfl h603.symm (by decide) rfl (fun ls hl => ?_)
                refine lv_goto (tgt := 64) hx hb dX9_chooses_90 (by decide) ?_
                have e605 : (gs g586 139 v6_64.toInt.toNat x597.toInt) 137 0 = g586 137 0 := by simp [gs]
                exact ih_64 x602 (gs g586 139 v6_64.toInt.toNat x597.toInt) _ _ ls (by omega) (by omega) (fun c j h139 => by rw [gs_c _ _ _ _ h139, hf588 c j h139]) (fun i hi => by by_cases e9 : i = v6_64.toInt.toNat; (rw [e9, gs_self]; omega); (rw [gs_j _ _ _ _ e9]; exact hq0 i (by omega))) hG hS (lv_sub hl [0, 1, 2, 3, 4, 5, 6] rfl)
          have e606 : (gs (gs g 141 0 p2.toInt) 142 0 x581.toInt) 137 0 = g 137 0 := by simp [gs]
          exact L_64 (((gs (gs g 141 0 p2.toInt) 142 0 x581.toInt) 137 0 - x584.toInt) + 1).toNat x584 (gs (gs g 141 0 p2.toInt) 142 0 x581.toInt) _ _ ls (by omega) (by omega) (fun c j _ => rfl) (fun i hi => absurd hi (by omega)) hG hS (lv_sub hl [0, 1, 2, 3, 4, 5, 6] rfl)
      · skip
        exact W.vret hx hb hr (fun t ht hW => ⟨⟨g, rfl, ⟨(fun c j h138 h139 h140 h141 h142 => by rfl), (fun i => rfl), (fun i => rfl), (hB), (fun _ => by omega)⟩, ok1 ht hG⟩, hS.F ht⟩) hS.2.2 dX9_chooses_39

theorem k_X9_chooses1 (l : Launch) (dC : Nat → ClassId) (dI : Nat → Nat → Nat) (dA : Nat → ClassId) (sz : Nat) (X : va_W) (Γ : ty_G) (hU : Un Γ) (g : gh) (h0 : Nat) (t_h0 : ty Γ h0 30) (p1 : Int32) (p2 : Int32) (p3 : Int32) (p4 : Int32) (hk : 0 ≤ p1.toInt ∧ p1.toInt ≤ g 137 0 ∧ g 137 0 ≤ 9 ∧ 0 ≤ p2.toInt ∧ p2.toInt ≤ p1.toInt ∧ g 137 0 - p1.toInt ≤ 1) (hC : CH g (g 137 0).toNat p1.toInt.toNat) (hB : BG g (g 137 0).toNat) : Met l yX9_chooses (.code yX9_chooses cX9_chooses 8 (Option.none : Option Jvm.ClassFile.FieldType) :: AL) ({ frames := 3, cells := 0, slots := 0, locals := 100 }) (PCx dC dI dA sz X Γ g [.ref h0, .int p1, .int p2, .int p3, .int p4]) (va_Qv (fun (u : gh) => (∀ c j : Nat, c ≠ 138 → c ≠ 139 → c ≠ 140 → c ≠ 141 → c ≠ 142 → u c j = g c j) ∧ (∀ i : Nat, u 138 i = g 138 i) ∧ (∀ i : Nat, u 140 i = g 140 i) ∧ (BG u (g 137 0).toNat) ∧ ((0 ≤ g 141 0 ∨ ∀ j : Nat, j < (g 137 0).toNat → g 140 j ≠ 1) → 0 ≤ u 141 0)) (okb dC dI dA sz X Γ) (ty_A sz)) 0 0 (ty_A sz) :=
  k_X9_choosesS 0 0 0 (fun l dC dI dA sz X Γ hU g h0 t_h0 p1 p2 p3 p4 hk hC hB => k_X9_chooses0 l dC dI dA sz X Γ hU g h0 t_h0 p1 p2 p3 p4 (by omega) hC hB) l dC dI dA sz X Γ hU g h0 t_h0 p1 p2 p3 p4 (by omega) hC hB

theorem k_X9_chooses2 (l : Launch) (dC : Nat → ClassId) (dI : Nat → Nat → Nat) (dA : Nat → ClassId) (sz : Nat) (X : va_W) (Γ : ty_G) (hU : Un Γ) (g : gh) (h0 : Nat) (t_h0 : ty Γ h0 30) (p1 : Int32) (p2 : Int32) (p3 : Int32) (p4 : Int32) (hk : 0 ≤ p1.toInt ∧ p1.toInt ≤ g 137 0 ∧ g 137 0 ≤ 9 ∧ 0 ≤ p2.toInt ∧ p2.toInt ≤ p1.toInt ∧ g 137 0 - p1.toInt ≤ 2) (hC : CH g (g 137 0).toNat p1.toInt.toNat) (hB : BG g (g 137 0).toNat) : Met l yX9_chooses (.code yX9_chooses cX9_chooses 8 (Option.none : Option Jvm.ClassFile.FieldType) :: AL) ({ frames := 6, cells := 0, slots := 0, locals := 200 }) (PCx dC dI dA sz X Γ g [.ref h0, .int p1, .int p2, .int p3, .int p4]) (va_Qv (fun (u : gh) => (∀ c j : Nat, c ≠ 138 → c ≠ 139 → c ≠ 140 → c ≠ 141 → c ≠ 142 → u c j = g c j) ∧ (∀ i : Nat, u 138 i = g 138 i) ∧ (∀ i : Nat, u 140 i = g 140 i) ∧ (BG u (g 137 0).toNat) ∧ ((0 ≤ g 141 0 ∨ ∀ j : Nat, j < (g 137 0).toNat → g 140 j ≠ 1) → 0 ≤ u 141 0)) (okb dC dI dA sz X Γ) (ty_A sz)) 0 0 (ty_A sz) :=
  k_X9_choosesS 1 3 100 (fun l dC dI dA sz X Γ hU g h0 t_h0 p1 p2 p3 p4 hk hC hB => k_X9_chooses1 l dC dI dA sz X Γ hU g h0 t_h0 p1 p2 p3 p4 (by omega) hC hB) l dC dI dA sz X Γ hU g h0 t_h0 p1 p2 p3 p4 (by omega) hC hB

theorem k_X9_chooses3 (l : Launch) (dC : Nat → ClassId) (dI : Nat → Nat → Nat) (dA : Nat → ClassId) (sz : Nat) (X : va_W) (Γ : ty_G) (hU : Un Γ) (g : gh) (h0 : Nat) (t_h0 : ty Γ h0 30) (p1 : Int32) (p2 : Int32) (p3 : Int32) (p4 : Int32) (hk : 0 ≤ p1.toInt ∧ p1.toInt ≤ g 137 0 ∧ g 137 0 ≤ 9 ∧ 0 ≤ p2.toInt ∧ p2.toInt ≤ p1.toInt ∧ g 137 0 - p1.toInt ≤ 3) (hC : CH g (g 137 0).toNat p1.toInt.toNat) (hB : BG g (g 137 0).toNat) : Met l yX9_chooses (.code yX9_chooses cX9_chooses 8 (Option.none : Option Jvm.ClassFile.FieldType) :: AL) ({ frames := 9, cells := 0, slots := 0, locals := 300 }) (PCx dC dI dA sz X Γ g [.ref h0, .int p1, .int p2, .int p3, .int p4]) (va_Qv (fun (u : gh) => (∀ c j : Nat, c ≠ 138 → c ≠ 139 → c ≠ 140 → c ≠ 141 → c ≠ 142 → u c j = g c j) ∧ (∀ i : Nat, u 138 i = g 138 i) ∧ (∀ i : Nat, u 140 i = g 140 i) ∧ (BG u (g 137 0).toNat) ∧ ((0 ≤ g 141 0 ∨ ∀ j : Nat, j < (g 137 0).toNat → g 140 j ≠ 1) → 0 ≤ u 141 0)) (okb dC dI dA sz X Γ) (ty_A sz)) 0 0 (ty_A sz) :=
  k_X9_choosesS 2 6 200 (fun l dC dI dA sz X Γ hU g h0 t_h0 p1 p2 p3 p4 hk hC hB => k_X9_chooses2 l dC dI dA sz X Γ hU g h0 t_h0 p1 p2 p3 p4 (by omega) hC hB) l dC dI dA sz X Γ hU g h0 t_h0 p1 p2 p3 p4 (by omega) hC hB

theorem k_X9_chooses4 (l : Launch) (dC : Nat → ClassId) (dI : Nat → Nat → Nat) (dA : Nat → ClassId) (sz : Nat) (X : va_W) (Γ : ty_G) (hU : Un Γ) (g : gh) (h0 : Nat) (t_h0 : ty Γ h0 30) (p1 : Int32) (p2 : Int32) (p3 : Int32) (p4 : Int32) (hk : 0 ≤ p1.toInt ∧ p1.toInt ≤ g 137 0 ∧ g 137 0 ≤ 9 ∧ 0 ≤ p2.toInt ∧ p2.toInt ≤ p1.toInt ∧ g 137 0 - p1.toInt ≤ 4) (hC : CH g (g 137 0).toNat p1.toInt.toNat) (hB : BG g (g 137 0).toNat) : Met l yX9_chooses (.code yX9_chooses cX9_chooses 8 (Option.none : Option Jvm.ClassFile.FieldType) :: AL) ({ frames := 12, cells := 0, slots := 0, locals := 400 }) (PCx dC dI dA sz X Γ g [.ref h0, .int p1, .int p2, .int p3, .int p4]) (va_Qv (fun (u : gh) => (∀ c j : Nat, c ≠ 138 → c ≠ 139 → c ≠ 140 → c ≠ 141 → c ≠ 142 → u c j = g c j) ∧ (∀ i : Nat, u 138 i = g 138 i) ∧ (∀ i : Nat, u 140 i = g 140 i) ∧ (BG u (g 137 0).toNat) ∧ ((0 ≤ g 141 0 ∨ ∀ j : Nat, j < (g 137 0).toNat → g 140 j ≠ 1) → 0 ≤ u 141 0)) (okb dC dI dA sz X Γ) (ty_A sz)) 0 0 (ty_A sz) :=
  k_X9_choosesS 3 9 300 (fun l dC dI dA sz X Γ hU g h0 t_h0 p1 p2 p3 p4 hk hC hB => k_X9_chooses3 l dC dI dA sz X Γ hU g h0 t_h0 p1 p2 p3 p4 (by omega) hC hB) l dC dI dA sz X Γ hU g h0 t_h0 p1 p2 p3 p4 (by omega) hC hB

theorem k_X9_chooses5 (l : Launch) (dC : Nat → ClassId) (dI : Nat → Nat → Nat) (dA : Nat → ClassId) (sz : Nat) (X : va_W) (Γ : ty_G) (hU : Un Γ) (g : gh) (h0 : Nat) (t_h0 : ty Γ h0 30) (p1 : Int32) (p2 : Int32) (p3 : Int32) (p4 : Int32) (hk : 0 ≤ p1.toInt ∧ p1.toInt ≤ g 137 0 ∧ g 137 0 ≤ 9 ∧ 0 ≤ p2.toInt ∧ p2.toInt ≤ p1.toInt ∧ g 137 0 - p1.toInt ≤ 5) (hC : CH g (g 137 0).toNat p1.toInt.toNat) (hB : BG g (g 137 0).toNat) : Met l yX9_chooses (.code yX9_chooses cX9_chooses 8 (Option.none : Option Jvm.ClassFile.FieldType) :: AL) ({ frames := 15, cells := 0, slots := 0, locals := 500 }) (PCx dC dI dA sz X Γ g [.ref h0, .int p1, .int p2, .int p3, .int p4]) (va_Qv (fun (u : gh) => (∀ c j : Nat, c ≠ 138 → c ≠ 139 → c ≠ 140 → c ≠ 141 → c ≠ 142 → u c j = g c j) ∧ (∀ i : Nat, u 138 i = g 138 i) ∧ (∀ i : Nat, u 140 i = g 140 i) ∧ (BG u (g 137 0).toNat) ∧ ((0 ≤ g 141 0 ∨ ∀ j : Nat, j < (g 137 0).toNat → g 140 j ≠ 1) → 0 ≤ u 141 0)) (okb dC dI dA sz X Γ) (ty_A sz)) 0 0 (ty_A sz) :=
  k_X9_choosesS 4 12 400 (fun l dC dI dA sz X Γ hU g h0 t_h0 p1 p2 p3 p4 hk hC hB => k_X9_chooses4 l dC dI dA sz X Γ hU g h0 t_h0 p1 p2 p3 p4 (by omega) hC hB) l dC dI dA sz X Γ hU g h0 t_h0 p1 p2 p3 p4 (by omega) hC hB

theorem k_X9_chooses6 (l : Launch) (dC : Nat → ClassId) (dI : Nat → Nat → Nat) (dA : Nat → ClassId) (sz : Nat) (X : va_W) (Γ : ty_G) (hU : Un Γ) (g : gh) (h0 : Nat) (t_h0 : ty Γ h0 30) (p1 : Int32) (p2 : Int32) (p3 : Int32) (p4 : Int32) (hk : 0 ≤ p1.toInt ∧ p1.toInt ≤ g 137 0 ∧ g 137 0 ≤ 9 ∧ 0 ≤ p2.toInt ∧ p2.toInt ≤ p1.toInt ∧ g 137 0 - p1.toInt ≤ 6) (hC : CH g (g 137 0).toNat p1.toInt.toNat) (hB : BG g (g 137 0).toNat) : Met l yX9_chooses (.code yX9_chooses cX9_chooses 8 (Option.none : Option Jvm.ClassFile.FieldType) :: AL) ({ frames := 18, cells := 0, slots := 0, locals := 600 }) (PCx dC dI dA sz X Γ g [.ref h0, .int p1, .int p2, .int p3, .int p4]) (va_Qv (fun (u : gh) => (∀ c j : Nat, c ≠ 138 → c ≠ 139 → c ≠ 140 → c ≠ 141 → c ≠ 142 → u c j = g c j) ∧ (∀ i : Nat, u 138 i = g 138 i) ∧ (∀ i : Nat, u 140 i = g 140 i) ∧ (BG u (g 137 0).toNat) ∧ ((0 ≤ g 141 0 ∨ ∀ j : Nat, j < (g 137 0).toNat → g 140 j ≠ 1) → 0 ≤ u 141 0)) (okb dC dI dA sz X Γ) (ty_A sz)) 0 0 (ty_A sz) :=
  k_X9_choosesS 5 15 500 (fun l dC dI dA sz X Γ hU g h0 t_h0 p1 p2 p3 p4 hk hC hB => k_X9_chooses5 l dC dI dA sz X Γ hU g h0 t_h0 p1 p2 p3 p4 (by omega) hC hB) l dC dI dA sz X Γ hU g h0 t_h0 p1 p2 p3 p4 (by omega) hC hB

theorem k_X9_chooses7 (l : Launch) (dC : Nat → ClassId) (dI : Nat → Nat → Nat) (dA : Nat → ClassId) (sz : Nat) (X : va_W) (Γ : ty_G) (hU : Un Γ) (g : gh) (h0 : Nat) (t_h0 : ty Γ h0 30) (p1 : Int32) (p2 : Int32) (p3 : Int32) (p4 : Int32) (hk : 0 ≤ p1.toInt ∧ p1.toInt ≤ g 137 0 ∧ g 137 0 ≤ 9 ∧ 0 ≤ p2.toInt ∧ p2.toInt ≤ p1.toInt ∧ g 137 0 - p1.toInt ≤ 7) (hC : CH g (g 137 0).toNat p1.toInt.toNat) (hB : BG g (g 137 0).toNat) : Met l yX9_chooses (.code yX9_chooses cX9_chooses 8 (Option.none : Option Jvm.ClassFile.FieldType) :: AL) ({ frames := 21, cells := 0, slots := 0, locals := 700 }) (PCx dC dI dA sz X Γ g [.ref h0, .int p1, .int p2, .int p3, .int p4]) (va_Qv (fun (u : gh) => (∀ c j : Nat, c ≠ 138 → c ≠ 139 → c ≠ 140 → c ≠ 141 → c ≠ 142 → u c j = g c j) ∧ (∀ i : Nat, u 138 i = g 138 i) ∧ (∀ i : Nat, u 140 i = g 140 i) ∧ (BG u (g 137 0).toNat) ∧ ((0 ≤ g 141 0 ∨ ∀ j : Nat, j < (g 137 0).toNat → g 140 j ≠ 1) → 0 ≤ u 141 0)) (okb dC dI dA sz X Γ) (ty_A sz)) 0 0 (ty_A sz) :=
  k_X9_choosesS 6 18 600 (fun l dC dI dA sz X Γ hU g h0 t_h0 p1 p2 p3 p4 hk hC hB => k_X9_chooses6 l dC dI dA sz X Γ hU g h0 t_h0 p1 p2 p3 p4 (by omega) hC hB) l dC dI dA sz X Γ hU g h0 t_h0 p1 p2 p3 p4 (by omega) hC hB

theorem k_X9_chooses8 (l : Launch) (dC : Nat → ClassId) (dI : Nat → Nat → Nat) (dA : Nat → ClassId) (sz : Nat) (X : va_W) (Γ : ty_G) (hU : Un Γ) (g : gh) (h0 : Nat) (t_h0 : ty Γ h0 30) (p1 : Int32) (p2 : Int32) (p3 : Int32) (p4 : Int32) (hk : 0 ≤ p1.toInt ∧ p1.toInt ≤ g 137 0 ∧ g 137 0 ≤ 9 ∧ 0 ≤ p2.toInt ∧ p2.toInt ≤ p1.toInt ∧ g 137 0 - p1.toInt ≤ 8) (hC : CH g (g 137 0).toNat p1.toInt.toNat) (hB : BG g (g 137 0).toNat) : Met l yX9_chooses (.code yX9_chooses cX9_chooses 8 (Option.none : Option Jvm.ClassFile.FieldType) :: AL) ({ frames := 24, cells := 0, slots := 0, locals := 800 }) (PCx dC dI dA sz X Γ g [.ref h0, .int p1, .int p2, .int p3, .int p4]) (va_Qv (fun (u : gh) => (∀ c j : Nat, c ≠ 138 → c ≠ 139 → c ≠ 140 → c ≠ 141 → c ≠ 142 → u c j = g c j) ∧ (∀ i : Nat, u 138 i = g 138 i) ∧ (∀ i : Nat, u 140 i = g 140 i) ∧ (BG u (g 137 0).toNat) ∧ ((0 ≤ g 141 0 ∨ ∀ j : Nat, j < (g 137 0).toNat → g 140 j ≠ 1) → 0 ≤ u 141 0)) (okb dC dI dA sz X Γ) (ty_A sz)) 0 0 (ty_A sz) :=
  k_X9_choosesS 7 21 700 (fun l dC dI dA sz X Γ hU g h0 t_h0 p1 p2 p3 p4 hk hC hB => k_X9_chooses7 l dC dI dA sz X Γ hU g h0 t_h0 p1 p2 p3 p4 (by omega) hC hB) l dC dI dA sz X Γ hU g h0 t_h0 p1 p2 p3 p4 (by omega) hC hB

theorem k_X9_chooses9 (l : Launch) (dC : Nat → ClassId) (dI : Nat → Nat → Nat) (dA : Nat → ClassId) (sz : Nat) (X : va_W) (Γ : ty_G) (hU : Un Γ) (g : gh) (h0 : Nat) (t_h0 : ty Γ h0 30) (p1 : Int32) (p2 : Int32) (p3 : Int32) (p4 : Int32) (hk : 0 ≤ p1.toInt ∧ p1.toInt ≤ g 137 0 ∧ g 137 0 ≤ 9 ∧ 0 ≤ p2.toInt ∧ p2.toInt ≤ p1.toInt ∧ g 137 0 - p1.toInt ≤ 9) (hC : CH g (g 137 0).toNat p1.toInt.toNat) (hB : BG g (g 137 0).toNat) : Met l yX9_chooses (.code yX9_chooses cX9_chooses 8 (Option.none : Option Jvm.ClassFile.FieldType) :: AL) ({ frames := 27, cells := 0, slots := 0, locals := 900 }) (PCx dC dI dA sz X Γ g [.ref h0, .int p1, .int p2, .int p3, .int p4]) (va_Qv (fun (u : gh) => (∀ c j : Nat, c ≠ 138 → c ≠ 139 → c ≠ 140 → c ≠ 141 → c ≠ 142 → u c j = g c j) ∧ (∀ i : Nat, u 138 i = g 138 i) ∧ (∀ i : Nat, u 140 i = g 140 i) ∧ (BG u (g 137 0).toNat) ∧ ((0 ≤ g 141 0 ∨ ∀ j : Nat, j < (g 137 0).toNat → g 140 j ≠ 1) → 0 ≤ u 141 0)) (okb dC dI dA sz X Γ) (ty_A sz)) 0 0 (ty_A sz) :=
  k_X9_choosesS 8 24 800 (fun l dC dI dA sz X Γ hU g h0 t_h0 p1 p2 p3 p4 hk hC hB => k_X9_chooses8 l dC dI dA sz X Γ hU g h0 t_h0 p1 p2 p3 p4 (by omega) hC hB) l dC dI dA sz X Γ hU g h0 t_h0 p1 p2 p3 p4 (by omega) hC hB
