set_option maxHeartbeats 4000000 in
set_option maxRecDepth 100000 in
/-- WeekBankModel.rings:  -/
theorem k_X9_rings (l : Launch) (dC : Nat → ClassId) (dI : Nat → Nat → Nat) (dA : Nat → ClassId) (sz : Nat) (X : va_W) (Γ : ty_G) (hU : Un Γ) (g : gh) (h0 : Nat) (t_h0 : ty Γ h0 30) (p1 : Int32) (m26 : 0 ≤ g 126 0 ∧ g 126 0 ≤ 200) (hIJ : IJ g) : Met l yX9_rings (.code yX9_rings cX9_rings 7 (Option.some Jvm.ClassFile.FieldType.int) :: AL) ({ frames := 28, cells := 0, slots := 0, locals := 927 }) (PCx dC dI dA sz X Γ g [.ref h0, .int p1]) (va_Qi (fun (r : Int32) (u : gh) => (∀ c j : Nat, c ≠ 100 → c ≠ 132 → c ≠ 133 → c ≠ 134 → c ≠ 136 → c ≠ 137 → c ≠ 138 → c ≠ 139 → c ≠ 140 → c ≠ 141 → c ≠ 142 → c ≠ 143 → u c j = g c j) ∧ (IJ u)) (okb dC dI dA sz X Γ) (ty_A sz)) 0 0 (ty_A sz) := by
  refine Met.ofW (cc := cX9_rings) (maxL := 7) (ret := (Option.some Jvm.ClassFile.FieldType.int)) (by decide) rfl ?_
  intro p e s m args below meth c s₁ B hml hv
  obtain ⟨rfl, hG, hE⟩ := hv
  have hx := B.exec
  have hb := B.bytes
  have hr := B.returns
  have hts := atoms_spec B.pre
  have hA : ∀ w ∈ AL, w.before _ s = true := fun w h => hts w (List.mem_cons_of_mem _ h)
  have hown : s.vm.findClass RX9 = some m.cls := findClass_of_methodNamed B.named
  have hlocks := B.notSynchronized
  have hS : va_S (ty_A sz) s.heap s.heap [] := va_S.rf
  have hl := lv_entry ([.ref h0, .int p1]) (n := 7) (Nat.le_of_ble_eq_true rfl)
  rw [lg_entry_eq]
  generalize (lg_sl ([.ref h0, .int p1]) ++ List.replicate (7 - (lg_sl ([.ref h0, .int p1])).length) Slot.unset).toArray = ls at hl ⊢
  have hl : lv_has ls 7 [(0, .ref h0), (1, .int p1)] := hl
  refine lv_aload_n hx hb dX9_rings_0 rfl (lv_at hl 0 rfl) ?_
  refine ty_iconst hx hb (0) dX9_rings_1 (by decide) (fun x1 h2 => ?_)
  refine put_X9_0 hx hb hA hown hE hG hS hU t_h0 wd_4_130 dX9_rings_2 (fun H locs hG hS => ?_)
  refine lv_iload_n hx hb dX9_rings_5 rfl (lv_at hl 1 rfl) ?_
  refine ty_iconst hx hb (2) dX9_rings_6 (by decide) (fun x3 h4 => ?_)
  refine ty_bipush hx hb (9) dX9_rings_7 (by decide) (fun x5 h6 => ?_)
  refine cI (va_runS (As := [.int p1, .int x3, .int x5]) (rest := []) ⟨hx, hb, hml, hown, hA⟩ (k_X9_within l dC dI dA sz X Γ hU (gs g 100 0 x1.toInt) p1 x3 x5   ) ⟨callB_of 3 hA (al_A wd_5_38) rfl rfl rfl (hA _ wd_1_7) (hA _ wd_5_36) (by decide +kernel) ⟨Nat.le_of_ble_eq_true rfl, Nat.le_of_ble_eq_true rfl⟩, hA _ wd_5_37⟩ ⟨bl, fun U hU9 hW9 => ⟨rfl, by rw [hU9]; exact hG, hE.go hS hU9 hW9⟩⟩ rfl rfl hl.1 rfl (lv_room (Nat.le_of_ble_eq_true rfl)) dX9_rings_9 ⟨Nat.zero_le _, Nat.zero_le _⟩) hS (fun x9 u7 H locs w8 hG hS => ?_)
  obtain ⟨eu10, w8⟩ := w8
  rw [eu10] at hG
  refine ty_if_ne (tgt := 17) hx hb dX9_rings_12 (by decide) (fun c11 => ?_) (fun c11 => ?_)
  · skip
    refine lv_aload_n hx hb dX9_rings_17 rfl (lv_at hl 0 rfl) ?_
    refine ty_iconst hx hb (0) dX9_rings_18 (by decide) (fun x12 h13 => ?_)
    refine put_X9_37 hx hb hA hown hE hG hS hU t_h0 wd_4_167 dX9_rings_19 (fun H locs hG hS => ?_)
    refine lv_aload_n hx hb dX9_rings_22 rfl (lv_at hl 0 rfl) ?_
    refine lv_iload_n hx hb dX9_rings_23 rfl (lv_at hl 1 rfl) ?_
    refine put_X9_43 hx hb hA hown hE hG hS hU t_h0 wd_4_173 dX9_rings_24 (fun H locs hG hS => ?_)
    refine ty_iconst hx hb (0) dX9_rings_27 (by decide) (fun x14 h15 => ?_)
    refine lv_istore_n (lv' := [(2, .int x14), (0, .ref h0), (1, .int p1)]) hx hb dX9_rings_28 rfl hl (by decide) rfl (fun ls hl => ?_)
    refine ty_iconst hx hb (0) dX9_rings_29 (by decide) (fun x16 h17 => ?_)
    refine lv_istore_n (lv' := [(3, .int x16), (2, .int x14), (0, .ref h0), (1, .int p1)]) hx hb dX9_rings_30 rfl hl (by decide) rfl (fun ls hl => ?_)
    have e19 : (gs (gs (gs g 100 0 x1.toInt) 137 0 x12.toInt) 143 0 p1.toInt) 126 0 = g 126 0 := by simp [gs]
    have e20 : (gs (gs (gs g 100 0 x1.toInt) 137 0 x12.toInt) 143 0 p1.toInt) 137 0 = x12.toInt := by simp [gs]
    have L_31 : ∀ (n : Nat) (v3_31 : Int32) (v2_31 : Int32) (g18 : gh) (H : Heap) (locs : List Loc) (ls : Array Slot), (g18 126 0 - v3_31.toInt : Int) < n → 0 ≤ v3_31.toInt ∧ v3_31.toInt ≤ g18 126 0 → g18 137 0 = (cnt v3_31.toInt.toNat (g 132) 0 : Int) ∧ 0 ≤ g18 137 0 ∧ g18 137 0 ≤ 9 → (∀ c j : Nat, c ≠ 136 → c ≠ 137 → c ≠ 138 → c ≠ 140 → g18 c j = (gs (gs (gs g 100 0 x1.toInt) 137 0 x12.toInt) 143 0 p1.toInt) c j) → (∀ i : Nat, (i : Int) < g18 137 0 → g18 138 i = -2 ∧ g18 140 i = 0) → ty_ok (dC, dI) vwCl Γ (TP dA Γ g18) sz X H → va_S (ty_A sz) s.heap H locs → lv_has ls 7 [(3, .int v3_31), (2, .int v2_31), (0, .ref h0), (1, .int p1)] → W p l e (headSpec (.code yX9_rings cX9_rings 7 (Option.some Jvm.ClassFile.FieldType.int) :: AL) ({ frames := 28, cells := 0, slots := 0, locals := 927 })).room s m ([.ref h0, .int p1] : List Value).toArray below meth c H locs 0 0 (MQ below (va_Qi (fun (r : Int32) (u : gh) => (∀ c j : Nat, c ≠ 100 → c ≠ 132 → c ≠ 133 → c ≠ 134 → c ≠ 136 → c ≠ 137 → c ≠ 138 → c ≠ 139 → c ≠ 140 → c ≠ 141 → c ≠ 142 → c ≠ 143 → u c j = g c j) ∧ (IJ u)) (okb dC dI dA sz X Γ) (ty_A sz)) ([.ref h0, .int p1] : List Value).toArray s 0 0 (ty_A sz)) (F0 m 31 ls []) := by
      as_aux_lemma =>
        intro n
        induction n with
        | zero => intro v3_31 v2_31 g18 H locs ls hm hi0 hi1 hf21 hq0 hG hS hl; exfalso; omega
        | succ n ih_31 =>
          intro v3_31 v2_31 g18 H locs ls hm hi0 hi1 hf21 hq0 hG hS hl
          have hk22 : g18 126 0 = (gs (gs (gs g 100 0 x1.toInt) 137 0 x12.toInt) 143 0 p1.toInt) 126 0 := hf21 126 0 (by decide) (by decide) (by decide) (by decide)
          have hk22 : g18 126 0 = g 126 0 := by rw [hk22]; simp [gs]
          refine lv_iload_n hx hb dX9_rings_31 rfl (lv_at hl 0 rfl) ?_
          refine lv_aload_n hx hb dX9_rings_32 rfl (lv_at hl 2 rfl) ?_
          refine get_X9_26 hx hb hA hown hE hG t_h0 wd_4_156 dX9_rings_33 (fun x23 h24 => ?_)
          refine ty_icmp_ge (tgt := 107) hx hb dX9_rings_36 (by decide) (fun c26 => ?_) (fun c26 => ?_)
          · skip
            refine lv_aload_n hx hb dX9_rings_107 rfl (lv_at hl 2 rfl) ?_
            refine ty_iconst hx hb (-1) dX9_rings_108 (by decide) (fun x27 h28 => ?_)
            refine put_X9_41 hx hb hA hown hE hG hS hU t_h0 wd_4_171 dX9_rings_109 (fun H locs hG hS => ?_)
            refine lv_aload_n hx hb dX9_rings_112 rfl (lv_at hl 2 rfl) ?_
            refine ty_iconst hx hb (-1) dX9_rings_113 (by decide) (fun x29 h30 => ?_)
            refine put_X9_42 hx hb hA hown hE hG hS hU t_h0 wd_4_172 dX9_rings_114 (fun H locs hG hS => ?_)
            have h137a : (gs (gs g18 141 0 x27.toInt) 142 0 x29.toInt) 137 0 = g18 137 0 := by rw [gs_c _ _ _ _ (by decide), gs_c _ _ _ _ (by decide)]
            refine lv_aload_n hx hb dX9_rings_117 rfl (lv_at hl 2 rfl) ?_
            refine ty_iconst hx hb (0) dX9_rings_118 (by decide) (fun x31 h32 => ?_)
            refine ty_iconst hx hb (0) dX9_rings_119 (by decide) (fun x33 h34 => ?_)
            refine ty_iconst hx hb (0) dX9_rings_120 (by decide) (fun x35 h36 => ?_)
            refine lv_iload_n hx hb dX9_rings_121 rfl (lv_at hl 1 rfl) ?_
            have e37 : (gs (gs g18 141 0 x27.toInt) 142 0 x29.toInt) 137 0 = g18 137 0 := by simp [gs]
            have e38 : (gs (gs g18 141 0 x27.toInt) 142 0 x29.toInt) 137 0 = g18 137 0 := by simp [gs]
            have e39 : (gs (gs g18 141 0 x27.toInt) 142 0 x29.toInt) 137 0 = g18 137 0 := by simp [gs]
            refine cV (va_runV (C := RX9) (As := [.int x31, .int x33, .int x35, .int v2_31]) (rest := []) ⟨hx, hb, hml, hown, hA⟩ (k_X9_chooses9 l dC dI dA sz X Γ hU (gs (gs g18 141 0 x27.toInt) 142 0 x29.toInt) h0 t_h0 x31 x33 x35 v2_31   (by omega) (by rw [show x31.toInt.toNat = 0 by omega]; exact CH_0 (fun i hi => by rw [h137a] at hi; rw [gs_c _ _ _ _ (by decide), gs_c _ _ _ _ (by decide), gs_c _ _ _ _ (by decide), gs_c _ _ _ _ (by decide)]; exact hq0 i (by omega))) (fun h => absurd h (by rw [gs_c _ _ _ _ (by decide), gs_self]; omega))) ⟨callB_of 4 hA (al_A wd_5_152) rfl rfl rfl (hA _ wd_1_7) (hA _ wd_5_149) (by decide +kernel) ⟨Nat.le_of_ble_eq_true rfl, Nat.le_of_ble_eq_true rfl⟩, hA _ wd_5_151, hA _ ws_49⟩ ⟨bl, recv_X9 hE hG t_h0, fun U hU9 hW9 => ⟨rfl, by rw [hU9]; exact hG, hE.go hS hU9 hW9⟩⟩ rfl rfl hl.1 rfl (lv_room (Nat.le_of_ble_eq_true rfl)) dX9_rings_122 ⟨Nat.zero_le _, Nat.zero_le _⟩) hS (fun u40 H locs w41 hG hS => ?_)
            obtain ⟨hf46, hq42, hq43, hq44, hq45⟩ := w41
            have hGd := hq44 (hq45 (Or.inr (fun j hj => by rw [h137a] at hj; rw [gs_c _ _ _ _ (by decide), gs_c _ _ _ _ (by decide)]; have h9 := (hq0 j (by omega)).2; omega)))
            have h137b : u40 137 0 = g18 137 0 := by rw [hf46 137 0 (by decide) (by decide) (by decide) (by decide) (by decide), gs_c _ _ _ _ (by decide), gs_c _ _ _ _ (by decide)]
            refine ty_iconst hx hb (0) dX9_rings_125 (by decide) (fun x47 h48 => ?_)
            refine lv_istore_n (lv' := [(3, .int x47), (2, .int v2_31), (0, .ref h0), (1, .int p1)]) hx hb dX9_rings_126 rfl hl (by decide) rfl (fun ls hl => ?_)
            refine ty_iconst hx hb (0) dX9_rings_127 (by decide) (fun x49 h50 => ?_)
            refine lv_istore (lv' := [(4, .int x49), (3, .int x47), (2, .int v2_31), (0, .ref h0), (1, .int p1)]) hx hb dX9_rings_128 hl (by decide) rfl (fun ls hl => ?_)
            have L_130 : ∀ (n : Nat) (v4_130 : Int32) (v3_130 : Int32) (g51 : gh) (H : Heap) (locs : List Loc) (ls : Array Slot), (g51 137 0 - v4_130.toInt : Int) < n → 0 ≤ v4_130.toInt ∧ v4_130.toInt ≤ g51 137 0 → (∀ c j : Nat, c ≠ 132 → c ≠ 133 → c ≠ 134 → g51 c j = u40 c j) → (RI g51 v4_130.toInt) → ty_ok (dC, dI) vwCl Γ (TP dA Γ g51) sz X H → va_S (ty_A sz) s.heap H locs → lv_has ls 7 [(4, .int v4_130), (3, .int v3_130), (2, .int v2_31), (0, .ref h0), (1, .int p1)] → W p l e (headSpec (.code yX9_rings cX9_rings 7 (Option.some Jvm.ClassFile.FieldType.int) :: AL) ({ frames := 28, cells := 0, slots := 0, locals := 927 })).room s m ([.ref h0, .int p1] : List Value).toArray below meth c H locs 0 0 (MQ below (va_Qi (fun (r : Int32) (u : gh) => (∀ c j : Nat, c ≠ 100 → c ≠ 132 → c ≠ 133 → c ≠ 134 → c ≠ 136 → c ≠ 137 → c ≠ 138 → c ≠ 139 → c ≠ 140 → c ≠ 141 → c ≠ 142 → c ≠ 143 → u c j = g c j) ∧ (IJ u)) (okb dC dI dA sz X Γ) (ty_A sz)) ([.ref h0, .int p1] : List Value).toArray s 0 0 (ty_A sz)) (F0 m 130 ls []) := by
              as_aux_lemma =>
                intro n
                induction n with
                | zero => intro v4_130 v3_130 g51 H locs ls hm hi0 hf52 hq0 hG hS hl; exfalso; omega
                | succ n ih_130 =>
                  intro v4_130 v3_130 g51 H locs ls hm hi0 hf52 hq0 hG hS hl
                  have hk53 : g51 137 0 = u40 137 0 := hf52 137 0 (by decide) (by decide) (by decide)
                  have hk54 : u40 137 0 = (gs (gs g18 141 0 x27.toInt) 142 0 x29.toInt) 137 0 := hf46 137 0 (by decide) (by decide) (by decide) (by decide) (by decide)
                  have hk54 : u40 137 0 = g18 137 0 := by rw [hk54]; simp [gs]
                  refine lv_iload hx hb dX9_rings_130 (lv_at hl 0 rfl) ?_
                  refine lv_aload_n hx hb dX9_rings_132 rfl (lv_at hl 3 rfl) ?_
                  refine get_X9_37 hx hb hA hown hE hG t_h0 wd_4_167 dX9_rings_133 (fun x55 h56 => ?_)
                  refine ty_icmp_ge (tgt := 216) hx hb dX9_rings_136 (by decide) (fun c58 => ?_) (fun c58 => ?_)
                  · skip
                    refine lv_iload_n hx hb dX9_rings_216 rfl (lv_at hl 1 rfl) ?_
                    exact W.iret (v := v3_130) hx hb hr (fun t ht hW => ⟨⟨v3_130, g51, rfl, ⟨(fun c j h100 h132 h133 h134 h136 h137 h138 h139 h140 h141 h142 h143 => by rw [hf52 c j h132 h133 h134, hf46 c j h138 h139 h140 h141 h142, gs_c _ _ _ _ h142, gs_c _ _ _ _ h141, hf21 c j h136 h137 h138 h140, gs_c _ _ _ _ h143, gs_c _ _ _ _ h137, gs_c _ _ _ _ h100]), (RI_end (by omega) hq0)⟩, ok1 ht hG⟩, hS.F ht⟩) hS.2.2 dX9_rings_217
                  · skip
                    refine lv_aload_n hx hb dX9_rings_139 rfl (lv_at hl 3 rfl) ?_
                    refine get_X9_39 hx hb hA hown hE hG t_h0 wd_4_169 dX9_rings_140 (fun b59 (t_b59 : ty Γ b59 139) => ?_)
                    refine lv_iload hx hb dX9_rings_143 (lv_at hl 0 rfl) ?_
                    refine ald_mI hx hb hE hG 39 rfl (n := 9) rfl (lo := -1) (hi := 8) rfl rfl t_b59 (by omega) dX9_rings_145 (fun j61 x60 h62 h63 h64 => ?_)
                    obtain rfl : j61 = v4_130.toInt.toNat := by omega
                    replace h63 : x60.toInt = g51 139 v4_130.toInt.toNat := h63
                    refine ty_iconst hx hb (-1) dX9_rings_146 (by decide) (fun x65 h66 => ?_)
                    refine ty_icmp_ne (tgt := 153) hx hb dX9_rings_147 (by decide) (fun c67 => ?_) (fun c67 => ?_)
                    · skip
                      have h137c : g51 137 0 = u40 137 0 := by rw [hf52 137 0 (by decide) (by decide) (by decide)]
                      have hgd9 : ∀ q : Nat, (q : Int) < g51 137 0 → 0 ≤ g51 139 q → ∃ m : Nat, (m : Int) < g51 137 0 ∧ g51 139 m = (q : Int) := fun q hq h0 => by rw [hf52 139 q (by decide) (by decide) (by decide)] at h0; obtain ⟨m9, q1, q2⟩ := hGd q (by omega) h0; exact ⟨m9, by omega, by rw [hf52 139 m9 (by decide) (by decide) (by decide)]; exact q2⟩
                      refine lv_aload_n hx hb dX9_rings_153 rfl (lv_at hl 3 rfl) ?_
                      refine get_X9_36 hx hb hA hown hE hG t_h0 wd_4_166 dX9_rings_154 (fun b68 (t_b68 : ty Γ b68 136) => ?_)
                      refine lv_iload hx hb dX9_rings_157 (lv_at hl 0 rfl) ?_
                      refine ald_mI hx hb hE hG 36 rfl (n := 9) rfl (lo := 0) (hi := 199) rfl rfl t_b68 (by omega) dX9_rings_159 (fun j70 x69 h71 h72 h73 => ?_)
                      obtain rfl : j70 = v4_130.toInt.toNat := by omega
                      replace h72 : x69.toInt = g51 136 v4_130.toInt.toNat := h72
                      refine lv_istore (lv' := [(5, .int x69), (4, .int v4_130), (3, .int v3_130), (2, .int v2_31), (0, .ref h0), (1, .int p1)]) hx hb dX9_rings_160 hl (by decide) rfl (fun ls hl => ?_)
                      refine lv_aload_n hx hb dX9_rings_162 rfl (lv_at hl 4 rfl) ?_
                      refine get_X9_36 hx hb hA hown hE hG t_h0 wd_4_166 dX9_rings_163 (fun b74 (t_b74 : ty Γ b74 136) => ?_)
                      refine lv_aload_n hx hb dX9_rings_166 rfl (lv_at hl 4 rfl) ?_
                      refine get_X9_39 hx hb hA hown hE hG t_h0 wd_4_169 dX9_rings_167 (fun b75 (t_b75 : ty Γ b75 139) => ?_)
                      refine lv_iload hx hb dX9_rings_170 (lv_at hl 1 rfl) ?_
                      refine ald_mI hx hb hE hG 39 rfl (n := 9) rfl (lo := -1) (hi := 8) rfl rfl t_b75 (by omega) dX9_rings_172 (fun j77 x76 h78 h79 h80 => ?_)
                      obtain rfl : j77 = v4_130.toInt.toNat := by omega
                      replace h79 : x76.toInt = g51 139 v4_130.toInt.toNat := h79
                      refine ald_mI hx hb hE hG 36 rfl (n := 9) rfl (lo := 0) (hi := 199) rfl rfl t_b74 (by omega) dX9_rings_173 (fun j82 x81 h83 h84 h85 => ?_)
                      obtain rfl : j82 = x76.toInt.toNat := by omega
                      replace h84 : x81.toInt = g51 136 x76.toInt.toNat := h84
                      refine lv_istore (lv' := [(6, .int x81), (5, .int x69), (4, .int v4_130), (3, .int v3_130), (2, .int v2_31), (0, .ref h0), (1, .int p1)]) hx hb dX9_rings_174 hl (by decide) rfl (fun ls hl => ?_)
                      refine lv_aload_n hx hb dX9_rings_176 rfl (lv_at hl 5 rfl) ?_
                      refine get_X9_33 hx hb hA hown hE hG t_h0 wd_4_163 dX9_rings_177 (fun b86 (t_b86 : ty Γ b86 133) => ?_)
                      refine lv_iload hx hb dX9_rings_180 (lv_at hl 1 rfl) ?_
                      refine lv_iload hx hb dX9_rings_182 (lv_at hl 0 rfl) ?_
                      refine ast_mI hx hb hE hG hS hU 33 rfl (n := 200) rfl (lo := -2147483648) (hi := 2147483647) rfl rfl rfl t_b86 (rgD _) (by omega) dX9_rings_184 (fun H locs hG hS => ?_)
                      refine lv_aload_n hx hb dX9_rings_185 rfl (lv_at hl 5 rfl) ?_
                      refine get_X9_34 hx hb hA hown hE hG t_h0 wd_4_164 dX9_rings_186 (fun b87 (t_b87 : ty Γ b87 134) => ?_)
                      refine lv_iload hx hb dX9_rings_189 (lv_at hl 0 rfl) ?_
                      refine lv_aload_n hx hb dX9_rings_191 rfl (lv_at hl 5 rfl) ?_
                      refine get_X9_27 hx hb hA hown hE hG t_h0 wd_4_157 dX9_rings_192 (fun b88 (t_b88 : ty Γ b88 127) => ?_)
                      refine lv_iload hx hb dX9_rings_195 (lv_at hl 1 rfl) ?_
                      refine ald_mI hx hb hE hG 27 rfl (n := 200) rfl (lo := 0) (hi := 9) rfl rfl t_b88 (by omega) dX9_rings_197 (fun j90 x89 h91 h92 h93 => ?_)
                      obtain rfl : j90 = x69.toInt.toNat := by omega
                      rw [gs_c _ _ _ _ (by decide)] at h92
                      replace h92 : x89.toInt = g51 127 x69.toInt.toNat := h92
                      refine ast_mI hx hb hE hG hS hU 34 rfl (n := 200) rfl (lo := -1) (hi := 9) rfl rfl rfl t_b87 (by omega) (by omega) dX9_rings_198 (fun H locs hG hS => ?_)
                      refine lv_aload_n hx hb dX9_rings_199 rfl (lv_at hl 5 rfl) ?_
                      refine get_X9_32 hx hb hA hown hE hG t_h0 wd_4_162 dX9_rings_200 (fun b94 (t_b94 : ty Γ b94 132) => ?_)
                      refine lv_iload hx hb dX9_rings_203 (lv_at hl 1 rfl) ?_
                      refine ty_iconst hx hb (1) dX9_rings_205 (by decide) (fun x95 h96 => ?_)
                      refine ast_mI hx hb hE hG hS hU 32 rfl (n := 200) rfl (lo := -2147483648) (hi := 2147483647) rfl rfl rfl t_b94 (rgD _) (by omega) dX9_rings_206 (fun H locs hG hS => ?_)
                      obtain ⟨x97, h98⟩ : ∃ y : Int32, y = v3_130 + Int32.ofInt (1) := ⟨_, rfl⟩
                      try have h99 : x97.toInt = v3_130.toInt + (1) := ty_inc h98 (by decide) (by omega) (by omega)
                      refine lv_iinc (v := x97) (lv' := [(3, .int x97), (6, .int x81), (5, .int x69), (4, .int v4_130), (2, .int v2_31), (0, .ref h0), (1, .int p1)]) hx hb dX9_rings_207 hl (k := 3) rfl h98.symm (by decide) rfl (fun ls hl => ?_)
                      obtain ⟨x100, h101⟩ : ∃ y : Int32, y = v4_130 + Int32.ofInt (1) := ⟨_, rfl⟩
                      try have h102 : x100.toInt = v4_130.toInt + (1) := ty_inc h101 (by decide) (by omega) (by omega)
                      refine lv_iinc (v := x100) (lv' := [(4, .int x100), (3, .int x97), (6, .int x81), (5, .int x69), (2, .int v2_31), (0, .ref h0), (1, .int p1)]) hx hb dX9_rings_210 hl (k := 3) rfl h101.symm (by decide) rfl (fun ls hl => ?_)
                      refine lv_goto (tgt := 130) hx hb dX9_rings_213 (by decide) ?_
                      have e103 : (gs (gs (gs g51 133 x69.toInt.toNat x81.toInt) 134 x81.toInt.toNat x89.toInt) 132 x69.toInt.toNat x95.toInt) 137 0 = g51 137 0 := by simp [gs]
                      exact ih_130 x100 x97 (gs (gs (gs g51 133 x69.toInt.toNat x81.toInt) 134 x81.toInt.toNat x89.toInt) 132 x69.toInt.toNat x95.toInt) _ _ ls (by omega) (by omega) (fun c j h132 h133 h134 => by rw [gs_c _ _ _ _ h132, gs_c _ _ _ _ h134, gs_c _ _ _ _ h133, hf52 c j h132 h133 h134]) (RI_step (g := g51) (k := v4_130.toInt) (k2 := x100.toInt) (w := x69.toInt.toNat) (it := x81.toInt.toNat) (z := x89.toInt) (by omega) (by omega) (by omega) hgd9 (by omega) (by omega) (by rw [← show x76.toInt = g51 139 v4_130.toInt.toNat by omega]; omega) (by omega) hq0 (by rw [gs_c _ _ _ _ (by decide), gs_c _ _ _ _ (by decide), gs_c _ _ _ _ (by decide)]) (fun j => by rw [gs_c _ _ _ _ (by decide), gs_c _ _ _ _ (by decide), gs_c _ _ _ _ (by decide)]) (by rw [gs_c _ _ _ _ (by decide), gs_c _ _ _ _ (by decide), gs_c _ _ _ _ (by decide)]) (fun j => by rw [gs_c _ _ _ _ (by decide), gs_c _ _ _ _ (by decide), gs_c _ _ _ _ (by decide)]) (fun j => by rw [show x95.toInt = 1 by omega]; exact gs_in (by rw [gs_c _ _ _ _ (by decide), gs_c _ _ _ _ (by decide)])) (fun j => by rw [gs_c _ _ _ _ (by decide)]; exact gs_in (by rw [gs_c _ _ _ _ (by decide)]))) hG hS (lv_sub hl [0, 1, 4, 5, 6] rfl)
                    · skip
                      refine lv_goto (tgt := 210) hx hb dX9_rings_150 (by decide) ?_
                      obtain ⟨x104, h105⟩ : ∃ y : Int32, y = v4_130 + Int32.ofInt (1) := ⟨_, rfl⟩
                      try have h106 : x104.toInt = v4_130.toInt + (1) := ty_inc h105 (by decide) (by omega) (by omega)
                      refine lv_iinc (v := x104) (lv' := [(4, .int x104), (3, .int v3_130), (2, .int v2_31), (0, .ref h0), (1, .int p1)]) hx hb dX9_rings_210 hl (k := 0) rfl h105.symm (by decide) rfl (fun ls hl => ?_)
                      refine lv_goto (tgt := 130) hx hb dX9_rings_213 (by decide) ?_
                      exact ih_130 x104 v3_130 g51 _ _ ls (by omega) (by omega) (fun c j h132 h133 h134 => by rw [hf52 c j h132 h133 h134]) (RI_skip (k := v4_130.toInt) (by omega) (by omega) (by omega) hq0) hG hS (lv_sub hl [0, 1, 2, 3, 4] rfl)
            have hk107 : u40 137 0 = (gs (gs g18 141 0 x27.toInt) 142 0 x29.toInt) 137 0 := hf46 137 0 (by decide) (by decide) (by decide) (by decide) (by decide)
            have hk107 : u40 137 0 = g18 137 0 := by rw [hk107]; simp [gs]
            exact L_130 ((u40 137 0 - x49.toInt) + 1).toNat x49 x47 u40 _ _ ls (by omega) (by omega) (fun c j _ _ _ => rfl) (RI_0 (by omega) (IJ_cg (by rw [hf46 126 0 (by decide) (by decide) (by decide) (by decide) (by decide), gs_c _ _ _ _ (by decide), gs_c _ _ _ _ (by decide), hf21 126 0 (by decide) (by decide) (by decide) (by decide), gs_c _ _ _ _ (by decide), gs_c _ _ _ _ (by decide), gs_c _ _ _ _ (by decide)]) (fun j => by rw [hf46 132 j (by decide) (by decide) (by decide) (by decide) (by decide), gs_c _ _ _ _ (by decide), gs_c _ _ _ _ (by decide), hf21 132 j (by decide) (by decide) (by decide) (by decide), gs_c _ _ _ _ (by decide), gs_c _ _ _ _ (by decide), gs_c _ _ _ _ (by decide)]) (fun j => by rw [hf46 134 j (by decide) (by decide) (by decide) (by decide) (by decide), gs_c _ _ _ _ (by decide), gs_c _ _ _ _ (by decide), hf21 134 j (by decide) (by decide) (by decide) (by decide), gs_c _ _ _ _ (by decide), gs_c _ _ _ _ (by decide), gs_c _ _ _ _ (by decide)]) hIJ)) hG hS (lv_sub hl [0, 1, 2, 3, 4] rfl)
          · skip
            refine lv_aload_n hx hb dX9_rings_39 rfl (lv_at hl 2 rfl) ?_
            refine get_X9_32 hx hb hA hown hE hG t_h0 wd_4_162 dX9_rings_40 (fun b108 (t_b108 : ty Γ b108 132) => ?_)
            refine lv_iload_n hx hb dX9_rings_43 rfl (lv_at hl 0 rfl) ?_
            refine ald_mI hx hb hE hG 32 rfl (n := 200) rfl (lo := -2147483648) (hi := 2147483647) rfl rfl t_b108 (by omega) dX9_rings_44 (fun j110 x109 h111 h112 h113 => ?_)
            clear h113
            obtain rfl : j110 = v3_31.toInt.toNat := by omega
            replace h112 : x109.toInt = g18 132 v3_31.toInt.toNat := h112
            have hH9 : g18 132 v3_31.toInt.toNat = g 132 v3_31.toInt.toNat := by rw [hf21 132 v3_31.toInt.toNat (by decide) (by decide) (by decide) (by decide), gs_c _ _ _ _ (by decide), gs_c _ _ _ _ (by decide), gs_c _ _ _ _ (by decide)]
            refine ty_if_eq (tgt := 51) hx hb dX9_rings_45 (by decide) (fun c114 => ?_) (fun c114 => ?_)
            · skip
              have hc8 := cnt_succ v3_31.toInt.toNat (g 132) 0
              have hcm := cnt_mono (show v3_31.toInt.toNat + 1 ≤ (g 126 0).toNat by omega) (g 132) 0
              have hj2 := hIJ.2
              refine lv_aload_n hx hb dX9_rings_51 rfl (lv_at hl 2 rfl) ?_
              refine get_X9_36 hx hb hA hown hE hG t_h0 wd_4_166 dX9_rings_52 (fun b115 (t_b115 : ty Γ b115 136) => ?_)
              refine lv_aload_n hx hb dX9_rings_55 rfl (lv_at hl 2 rfl) ?_
              refine get_X9_37 hx hb hA hown hE hG t_h0 wd_4_167 dX9_rings_56 (fun x116 h117 => ?_)
              refine lv_iload_n hx hb dX9_rings_59 rfl (lv_at hl 0 rfl) ?_
              refine ast_mI hx hb hE hG hS hU 36 rfl (n := 9) rfl (lo := 0) (hi := 199) rfl rfl rfl t_b115 (by omega) (by omega) dX9_rings_60 (fun H locs hG hS => ?_)
              refine lv_aload_n hx hb dX9_rings_61 rfl (lv_at hl 2 rfl) ?_
              refine get_X9_38 hx hb hA hown hE hG t_h0 wd_4_168 dX9_rings_62 (fun b119 (t_b119 : ty Γ b119 138) => ?_)
              refine lv_aload_n hx hb dX9_rings_65 rfl (lv_at hl 2 rfl) ?_
              refine get_X9_37 hx hb hA hown hE hG t_h0 wd_4_167 dX9_rings_66 (fun x120 h121 => ?_)
              replace h121 : x120.toInt = g18 137 0 := by rw [h121]; simp [gs]
              refine ty_bipush hx hb (-2) dX9_rings_69 (by decide) (fun x123 h124 => ?_)
              refine ast_mI hx hb hE hG hS hU 38 rfl (n := 9) rfl (lo := -2) (hi := 8) rfl rfl rfl t_b119 (by omega) (by omega) dX9_rings_71 (fun H locs hG hS => ?_)
              refine lv_aload_n hx hb dX9_rings_72 rfl (lv_at hl 2 rfl) ?_
              refine get_X9_40 hx hb hA hown hE hG t_h0 wd_4_170 dX9_rings_73 (fun b125 (t_b125 : ty Γ b125 140) => ?_)
              refine lv_aload_n hx hb dX9_rings_76 rfl (lv_at hl 2 rfl) ?_
              refine get_X9_37 hx hb hA hown hE hG t_h0 wd_4_167 dX9_rings_77 (fun x126 h127 => ?_)
              replace h127 : x126.toInt = g18 137 0 := by rw [h127]; simp [gs]
              refine ty_iconst hx hb (0) dX9_rings_80 (by decide) (fun x129 h130 => ?_)
              refine ast_mZ hx hb hE hG hS hU 40 rfl (n := 9) rfl (lo := 0) (hi := 1) rfl rfl rfl t_b125 (by omega) (by omega) (by omega) dX9_rings_81 (fun H locs hG hS => ?_)
              refine lv_iload_n hx hb dX9_rings_82 rfl (lv_at hl 1 rfl) ?_
              refine lv_aload_n hx hb dX9_rings_83 rfl (lv_at hl 2 rfl) ?_
              refine get_X9_31 hx hb hA hown hE hG t_h0 wd_4_161 dX9_rings_84 (fun b131 (t_b131 : ty Γ b131 131) => ?_)
              refine lv_iload_n hx hb dX9_rings_87 rfl (lv_at hl 0 rfl) ?_
              refine ald_mI hx hb hE hG 31 rfl (n := 200) rfl (lo := -2147483648) (hi := 2147483647) rfl rfl t_b131 (by omega) dX9_rings_88 (fun j133 x132 h134 h135 h136 => ?_)
              clear h136
              obtain rfl : j133 = v3_31.toInt.toNat := by omega
              rw [gs_c _ _ _ _ (by decide)] at h135
              rw [gs_c _ _ _ _ (by decide)] at h135
              rw [gs_c _ _ _ _ (by decide)] at h135
              replace h135 : x132.toInt = g18 131 v3_31.toInt.toNat := h135
              refine ty_iadd hx hb dX9_rings_89 (fun x137 h138 => ?_)
              refine lv_istore_n (lv' := [(2, .int x137), (3, .int v3_31), (0, .ref h0), (1, .int p1)]) hx hb dX9_rings_90 rfl hl (by decide) rfl (fun ls hl => ?_)
              refine lv_aload_n hx hb dX9_rings_91 rfl (lv_at hl 2 rfl) ?_
              refine lv_dup hx hb dX9_rings_92 rfl ?_
              refine get_X9_37 hx hb hA hown hE hG t_h0 wd_4_167 dX9_rings_93 (fun x140 h141 => ?_)
              replace h141 : x140.toInt = g18 137 0 := by rw [h141]; simp [gs]
              refine ty_iconst hx hb (1) dX9_rings_96 (by decide) (fun x143 h144 => ?_)
              refine ty_iadd hx hb dX9_rings_97 (fun x145 h146 => ?_)
              try have h147 : x145.toInt = x140.toInt + x143.toInt := ty_add h146 (by omega) (by omega)
              refine put_X9_37 hx hb hA hown hE hG hS hU t_h0 wd_4_167 dX9_rings_98 (fun H locs hG hS => ?_)
              obtain ⟨x148, h149⟩ : ∃ y : Int32, y = v3_31 + Int32.ofInt (1) := ⟨_, rfl⟩
              try have h150 : x148.toInt = v3_31.toInt + (1) := ty_inc h149 (by decide) (by omega) (by omega)
              refine lv_iinc (v := x148) (lv' := [(3, .int x148), (2, .int x137), (0, .ref h0), (1, .int p1)]) hx hb dX9_rings_101 hl (k := 1) rfl h149.symm (by decide) rfl (fun ls hl => ?_)
              have hc9 := cnt_at (g 132) 0 (i := v3_31) (i' := x148) (by omega) (by omega)
              refine lv_goto (tgt := 31) hx hb dX9_rings_104 (by decide) ?_
              have e151 : (gs (gs (gs (gs g18 136 x116.toInt.toNat v3_31.toInt) 138 x120.toInt.toNat x123.toInt) 140 x126.toInt.toNat x129.toInt) 137 0 x145.toInt) 126 0 = g18 126 0 := by simp [gs]
              have e152 : (gs (gs (gs (gs g18 136 x116.toInt.toNat v3_31.toInt) 138 x120.toInt.toNat x123.toInt) 140 x126.toInt.toNat x129.toInt) 137 0 x145.toInt) 137 0 = x145.toInt := by simp [gs]
              exact ih_31 x148 x137 (gs (gs (gs (gs g18 136 x116.toInt.toNat v3_31.toInt) 138 x120.toInt.toNat x123.toInt) 140 x126.toInt.toNat x129.toInt) 137 0 x145.toInt) _ _ ls (by omega) (by omega) (by omega) (fun c j h136 h137 h138 h140 => by rw [gs_c _ _ _ _ h137, gs_c _ _ _ _ h140, gs_c _ _ _ _ h138, gs_c _ _ _ _ h136, hf21 c j h136 h137 h138 h140]) (fun i hi => by rw [gs_self] at hi; refine ⟨?_, ?_⟩; (rw [gs_c _ _ _ _ (by decide), gs_c _ _ _ _ (by decide)]; by_cases e9 : i = x120.toInt.toNat; (rw [e9, gs_self]; omega); (rw [gs_j _ _ _ _ e9, gs_c _ _ _ _ (by decide)]; exact (hq0 i (by omega)).1)); (rw [gs_c _ _ _ _ (by decide)]; by_cases e9 : i = x126.toInt.toNat; (rw [e9, gs_self]; omega); (rw [gs_j _ _ _ _ e9, gs_c _ _ _ _ (by decide), gs_c _ _ _ _ (by decide)]; exact (hq0 i (by omega)).2))) hG hS (lv_sub hl [0, 1, 2, 3] rfl)
            · skip
              refine lv_goto (tgt := 101) hx hb dX9_rings_48 (by decide) ?_
              obtain ⟨x153, h154⟩ : ∃ y : Int32, y = v3_31 + Int32.ofInt (1) := ⟨_, rfl⟩
              try have h155 : x153.toInt = v3_31.toInt + (1) := ty_inc h154 (by decide) (by omega) (by omega)
              refine lv_iinc (v := x153) (lv' := [(3, .int x153), (2, .int v2_31), (0, .ref h0), (1, .int p1)]) hx hb dX9_rings_101 hl (k := 0) rfl h154.symm (by decide) rfl (fun ls hl => ?_)
              have hc9 := cnt_at (g 132) 0 (i := v3_31) (i' := x153) (by omega) (by omega)
              refine lv_goto (tgt := 31) hx hb dX9_rings_104 (by decide) ?_
              exact ih_31 x153 v2_31 g18 _ _ ls (by omega) (by omega) (by omega) (fun c j h136 h137 h138 h140 => by rw [hf21 c j h136 h137 h138 h140]) (hq0) hG hS (lv_sub hl [0, 1, 2, 3] rfl)
    have e156 : (gs (gs (gs g 100 0 x1.toInt) 137 0 x12.toInt) 143 0 p1.toInt) 126 0 = g 126 0 := by simp [gs]
    have e157 : (gs (gs (gs g 100 0 x1.toInt) 137 0 x12.toInt) 143 0 p1.toInt) 137 0 = x12.toInt := by simp [gs]
    have hc0 : cnt x16.toInt.toNat (g 132) 0 = 0 := by rw [show x16.toInt.toNat = 0 by omega]; rfl
    exact L_31 (((gs (gs (gs g 100 0 x1.toInt) 137 0 x12.toInt) 143 0 p1.toInt) 126 0 - x16.toInt) + 1).toNat x16 x14 (gs (gs (gs g 100 0 x1.toInt) 137 0 x12.toInt) 143 0 p1.toInt) _ _ ls (by omega) (by omega) (by omega) (fun c j _ _ _ _ => rfl) (fun i hi => absurd hi (by omega)) hG hS (lv_sub hl [0, 1, 2, 3] rfl)
  · skip
    refine ty_iconst hx hb (-1) dX9_rings_15 (by decide) (fun x158 h159 => ?_)
    exact W.iret (v := x158) hx hb hr (fun t ht hW => ⟨⟨x158, (gs g 100 0 x1.toInt), rfl, ⟨(fun c j h100 h132 h133 h134 h136 h137 h138 h139 h140 h141 h142 h143 => by rw [gs_c _ _ _ _ h100]), (by (repeat (first | with_reducible assumption | (refine IJ_c (by decide) (by decide) (by decide) ?_) | (refine IJ_take (by omega) (by omega) ?_) | (refine IJ_how (by omega) ?_) | (refine IJ_by (by omega) ?_))))⟩, ok1 ht hG⟩, hS.F ht⟩) hS.2.2 dX9_rings_16
