set_option maxHeartbeats 4000000 in
set_option maxRecDepth 100000 in
/-- WeekBank$RingSearch.findBest:  -/
theorem k_X5_findBest (l : Launch) (dC : Nat → ClassId) (dI : Nat → Nat → Nat) (dA : Nat → ClassId) (sz : Nat) (X : va_W) (Γ : ty_G) (hU : Un Γ) (g : gh) (h0 : Nat) (t_h0 : ty Γ h0 8) (p1 : Int32) (hs : 0 ≤ g 7 0 ∧ g 7 0 ≤ 9) (hM : ∀ j : Nat, (j : Int) < g 7 0 → 0 ≤ g 46 (0 + j)) (h64 : ∀ i : Nat, (i : Int) < g 7 0 → 0 ≤ g 64 (g 46 (0 + i)).toNat ∧ g 64 (g 46 (0 + i)).toNat ≤ 29997) (hb8 : g 8 0 = 0) (h860 : g 86 0 = 0) (hL : 2 ≤ p1.toInt ∧ p1.toInt ≤ 9) : Met l yX5_findBest (.code yX5_findBest cX5_findBest 4 (Option.none : Option Jvm.ClassFile.FieldType) :: AL) ({ frames := 3, cells := 0, slots := 0, locals := 74 }) (PCx dC dI dA sz X Γ g [.ref h0, .int p1]) (va_Qv (fun (u : gh) => (∀ c j : Nat, c ≠ 8 → c ≠ 83 → c ≠ 84 → c ≠ 85 → c ≠ 86 → u c j = g c j) ∧ ((0 ≤ u 8 0 ∧ u 8 0 ≤ 511)) ∧ (∃ p : Nat → Int, rg_B (g 7 0).toNat (fun i j => (fun i j => decide (i ≠ j ∧ mz_b ((g 66) ((g 46) (0 + i)).toNat) ((g 41) ((g 61) ((g 46) (0 + j)).toNat).toNat) ((g 42) ((g 61) ((g 46) (0 + j)).toNat).toNat) ((g 62) ((g 46) (0 + j)).toNat) ≠ 0)) i j = true) p1.toInt.toNat (fun i => (g 64) ((g 46) (0 + i)).toNat) p ∧ (∀ i, i < (g 7 0).toNat → (0 ≤ p i ↔ (u 8 0).toNat.testBit i = true)) ∧ (u 8 0 ≠ 0 → wy_c p (u 8 0).toNat (g 7 0).toNat = u 86 (u 8 0).toNat) ∧ rg_c p (g 7 0).toNat = bcz (u 8 0).toNat ∧ (u 8 0).toNat < 2 ^ (g 7 0).toNat) ∧ (u 86 0 = 0)) (okb dC dI dA sz X Γ) (ty_A sz)) 0 0 (ty_A sz) := by
  refine Met.ofW (cc := cX5_findBest) (maxL := 4) (ret := (Option.none : Option Jvm.ClassFile.FieldType)) (by decide) rfl ?_
  intro p e s m args below meth c s₁ B hml hv
  obtain ⟨rfl, hG, hE⟩ := hv
  have hx := B.exec
  have hb := B.bytes
  have hr := B.returns
  have hts := atoms_spec B.pre
  have hA : ∀ w ∈ AL, w.before _ s = true := fun w h => hts w (List.mem_cons_of_mem _ h)
  have hown : s.vm.findClass RX5 = some m.cls := findClass_of_methodNamed B.named
  have hlocks := B.notSynchronized
  have hS : va_S (ty_A sz) s.heap s.heap [] := va_S.rf
  obtain ⟨F9, hF9⟩ : ∃ F : Nat → Int, F = fs_f (g 83) (fun i j => decide (i ≠ j ∧ mz_b (g 66 (g 46 (0 + i)).toNat) (g 41 (g 61 (g 46 (0 + j)).toNat).toNat) (g 42 (g 61 (g 46 (0 + j)).toNat).toNat) (g 62 (g 46 (0 + j)).toNat) ≠ 0)) (g 7 0).toNat (g 7 0).toNat := ⟨_, rfl⟩
  have hFb : ∀ j : Nat, (j : Int) < g 7 0 → F9 j = (sm_f ((fun i j => decide (i ≠ j ∧ mz_b (g 66 (g 46 (0 + i)).toNat) (g 41 (g 61 (g 46 (0 + j)).toNat).toNat) (g 42 (g 61 (g 46 (0 + j)).toNat).toNat) (g 62 (g 46 (0 + j)).toNat) ≠ 0)) j) (g 7 0).toNat : Int) := fun j hj => by rw [hF9]; exact fs_in (by omega)
  obtain ⟨L9, hL9⟩ : ∃ L : Nat, p1.toInt = (L : Int) := ⟨p1.toInt.toNat, by omega⟩
  have hl := lv_entry ([.ref h0, .int p1]) (n := 4) (Nat.le_of_ble_eq_true rfl)
  rw [lg_entry_eq]
  generalize (lg_sl ([.ref h0, .int p1]) ++ List.replicate (4 - (lg_sl ([.ref h0, .int p1])).length) Slot.unset).toArray = ls at hl ⊢
  have hl : lv_has ls 4 [(0, .ref h0), (1, .int p1)] := hl
  refine ty_iconst hx hb (1) dX5_findBest_0 (by decide) (fun x1 h2 => ?_)
  refine lv_aload_n hx hb dX5_findBest_1 rfl (lv_at hl 0 rfl) ?_
  refine get_X5_1 hx hb hA hown hE hG t_h0 wd_1_108 dX5_findBest_2 (fun x3 h4 => ?_)
  have hpw9 : pw x3.toInt = pw (g 7 0) := by rw [show x3.toInt = g 7 0 by omega]
  refine lv_ishl hx hb dX5_findBest_5 ?_
  refine lv_topi (fun x6 h7 => ?_)
  have h8 := shl_pw h7 (by omega) (by omega) (by omega)
  have hsz9 : x6.toInt.toNat = 2 ^ (g 7 0).toNat := by have h9 := pw_n (z := g 7 0); have h8 : pw (g 7 0) = x6.toInt := (by first | (have h7 : pw (g 7 0) = pw (g 7 0) := rfl; omega) | omega); omega
  have hsl9 : 2 ^ (g 7 0).toNat ≤ 512 := p2_9 (by omega)
  have hsp9 : 0 < 2 ^ (g 7 0).toNat := Nat.two_pow_pos _
  refine lv_istore_n (lv' := [(2, .int x6), (0, .ref h0), (1, .int p1)]) hx hb dX5_findBest_6 rfl hl (by decide) rfl (fun ls hl => ?_)
  refine lv_aload_n hx hb dX5_findBest_7 rfl (lv_at hl 1 rfl) ?_
  refine cV (va_runV (C := RX5) (As := []) (rest := []) ⟨hx, hb, hml, hown, hA⟩ (k_X5_findSuiting l dC dI dA sz X Γ hU g h0 t_h0   (by omega) (hM)) ⟨callB_of 0 hA (al_A wd_3_126) rfl rfl rfl (hA _ wd_1_5) (hA _ wd_3_123) (by decide +kernel) ⟨Nat.le_of_ble_eq_true rfl, Nat.le_of_ble_eq_true rfl⟩, hA _ wd_3_125, hA _ ws_19⟩ ⟨bl, recv_X5 hE hG t_h0, fun U hU9 hW9 => ⟨rfl, by rw [hU9]; exact hG, hE.go hS hU9 hW9⟩⟩ rfl rfl hl.1 rfl (lv_room (Nat.le_of_ble_eq_true rfl)) dX5_findBest_8 ⟨Nat.zero_le _, Nat.zero_le _⟩) hS (fun u9 H locs w10 hG hS => ?_)
  obtain ⟨hf12, hq11⟩ := w10
  have hF13 : u9 83 = F9 := by rw [hq11, hF9]
  refine lv_aload_n hx hb dX5_findBest_11 rfl (lv_at hl 1 rfl) ?_
  refine lv_iload_n hx hb dX5_findBest_12 rfl (lv_at hl 0 rfl) ?_
  refine cV (va_runV (C := RX5) (As := [.int x6]) (rest := []) ⟨hx, hb, hml, hown, hA⟩ (k_X5_forgetBefore l dC dI dA sz X Γ hU u9 h0 t_h0 x6   (by omega)) ⟨callB_of 1 hA (al_A wd_3_134) rfl rfl rfl (hA _ wd_1_5) (hA _ wd_3_131) (by decide +kernel) ⟨Nat.le_of_ble_eq_true rfl, Nat.le_of_ble_eq_true rfl⟩, hA _ wd_3_133, hA _ ws_20⟩ ⟨bl, recv_X5 hE hG t_h0, fun U hU9 hW9 => ⟨rfl, by rw [hU9]; exact hG, hE.go hS hU9 hW9⟩⟩ rfl rfl hl.1 rfl (lv_room (Nat.le_of_ble_eq_true rfl)) dX5_findBest_13 ⟨Nat.zero_le _, Nat.zero_le _⟩) hS (fun u14 H locs w15 hG hS => ?_)
  obtain ⟨hf18, hq16, hq17⟩ := w15
  have hn19 : u9 84 = (g 84) := by rw [(show u9 84 = g 84 from funext fun j => hf12 84 j (by decide))]
  rw [hn19] at hq16
  have hn20 : u9 85 = (g 85) := by rw [(show u9 85 = g 85 from funext fun j => hf12 85 j (by decide))]
  rw [hn20] at hq17
  refine ty_iconst hx hb (0) dX5_findBest_16 (by decide) (fun x21 h22 => ?_)
  refine lv_istore_n (lv' := [(3, .int x21), (2, .int x6), (0, .ref h0), (1, .int p1)]) hx hb dX5_findBest_17 rfl hl (by decide) rfl (fun ls hl => ?_)
  have L_18 : ∀ (n : Nat) (v3_18 : Int32) (g23 : gh) (H : Heap) (locs : List Loc) (ls : Array Slot), (g23 7 0 - v3_18.toInt : Int) < n → 0 ≤ v3_18.toInt ∧ v3_18.toInt ≤ g23 7 0 → (∀ c j : Nat, c ≠ 84 → g23 c j = u14 c j) → (g23 84 = si_f (fz (g 84) 0 dp_N (9 * 2 ^ (g 7 0).toNat)) v3_18.toInt.toNat) → ty_ok (dC, dI) vwCl Γ (TP dA Γ g23) sz X H → va_S (ty_A sz) s.heap H locs → lv_has ls 4 [(3, .int v3_18), (2, .int x6), (0, .ref h0), (1, .int p1)] → W p l e (headSpec (.code yX5_findBest cX5_findBest 4 (Option.none : Option Jvm.ClassFile.FieldType) :: AL) ({ frames := 3, cells := 0, slots := 0, locals := 74 })).room s m ([.ref h0, .int p1] : List Value).toArray below meth c H locs 0 0 (MQ below (va_Qv (fun (u : gh) => (∀ c j : Nat, c ≠ 8 → c ≠ 83 → c ≠ 84 → c ≠ 85 → c ≠ 86 → u c j = g c j) ∧ ((0 ≤ u 8 0 ∧ u 8 0 ≤ 511)) ∧ (∃ p : Nat → Int, rg_B (g 7 0).toNat (fun i j => (fun i j => decide (i ≠ j ∧ mz_b ((g 66) ((g 46) (0 + i)).toNat) ((g 41) ((g 61) ((g 46) (0 + j)).toNat).toNat) ((g 42) ((g 61) ((g 46) (0 + j)).toNat).toNat) ((g 62) ((g 46) (0 + j)).toNat) ≠ 0)) i j = true) p1.toInt.toNat (fun i => (g 64) ((g 46) (0 + i)).toNat) p ∧ (∀ i, i < (g 7 0).toNat → (0 ≤ p i ↔ (u 8 0).toNat.testBit i = true)) ∧ (u 8 0 ≠ 0 → wy_c p (u 8 0).toNat (g 7 0).toNat = u 86 (u 8 0).toNat) ∧ rg_c p (g 7 0).toNat = bcz (u 8 0).toNat ∧ (u 8 0).toNat < 2 ^ (g 7 0).toNat) ∧ (u 86 0 = 0)) (okb dC dI dA sz X Γ) (ty_A sz)) ([.ref h0, .int p1] : List Value).toArray s 0 0 (ty_A sz)) (F0 m 18 ls []) := by
    intro n
    induction n with
    | zero => intro v3_18 g23 H locs ls hm hi0 hf24 ha0 hG hS hl; exfalso; omega
    | succ n ih_18 =>
      intro v3_18 g23 H locs ls hm hi0 hf24 ha0 hG hS hl
      have hk25 : g23 7 0 = u14 7 0 := hf24 7 0 (by decide)
      have hk26 : u14 7 0 = u9 7 0 := hf18 7 0 (by decide) (by decide)
      have hk27 : u9 7 0 = g 7 0 := hf12 7 0 (by decide)
      refine lv_iload_n hx hb dX5_findBest_18 rfl (lv_at hl 0 rfl) ?_
      refine lv_aload_n hx hb dX5_findBest_19 rfl (lv_at hl 2 rfl) ?_
      refine get_X5_1 hx hb hA hown hE hG t_h0 wd_1_108 dX5_findBest_20 (fun x28 h29 => ?_)
      refine ty_icmp_ge (tgt := 46) hx hb dX5_findBest_23 (by decide) (fun c31 => ?_) (fun c31 => ?_)
      · skip
        refine ty_iconst hx hb (1) dX5_findBest_46 (by decide) (fun x32 h33 => ?_)
        refine lv_istore_n (lv' := [(3, .int x32), (2, .int x6), (0, .ref h0), (1, .int p1)]) hx hb dX5_findBest_47 rfl hl (by decide) rfl (fun ls hl => ?_)
        have L_48 : ∀ (n : Nat) (v3_48 : Int32) (g34 : gh) (H : Heap) (locs : List Loc) (ls : Array Slot), (513 - v3_48.toInt : Int) < n → 1 ≤ v3_48.toInt ∧ v3_48.toInt.toNat ≤ 2 ^ (g 7 0).toNat → (∀ c j : Nat, c ≠ 84 → c ≠ 85 → g34 c j = g23 c j) → (g34 84 = (dd_all (g 7 0).toNat (fun x y => (F9 x).toNat.testBit y) p1.toInt (si_f (fz (g 84) 0 dp_N (9 * 2 ^ (g 7 0).toNat)) (g 7 0).toNat) (fz (g 85) 0 dp_N (2 ^ (g 7 0).toNat)) v3_48.toInt.toNat).1) → (g34 85 = (dd_all (g 7 0).toNat (fun x y => (F9 x).toNat.testBit y) p1.toInt (si_f (fz (g 84) 0 dp_N (9 * 2 ^ (g 7 0).toNat)) (g 7 0).toNat) (fz (g 85) 0 dp_N (2 ^ (g 7 0).toNat)) v3_48.toInt.toNat).2) → ty_ok (dC, dI) vwCl Γ (TP dA Γ g34) sz X H → va_S (ty_A sz) s.heap H locs → lv_has ls 4 [(3, .int v3_48), (2, .int x6), (0, .ref h0), (1, .int p1)] → W p l e (headSpec (.code yX5_findBest cX5_findBest 4 (Option.none : Option Jvm.ClassFile.FieldType) :: AL) ({ frames := 3, cells := 0, slots := 0, locals := 74 })).room s m ([.ref h0, .int p1] : List Value).toArray below meth c H locs 0 0 (MQ below (va_Qv (fun (u : gh) => (∀ c j : Nat, c ≠ 8 → c ≠ 83 → c ≠ 84 → c ≠ 85 → c ≠ 86 → u c j = g c j) ∧ ((0 ≤ u 8 0 ∧ u 8 0 ≤ 511)) ∧ (∃ p : Nat → Int, rg_B (g 7 0).toNat (fun i j => (fun i j => decide (i ≠ j ∧ mz_b ((g 66) ((g 46) (0 + i)).toNat) ((g 41) ((g 61) ((g 46) (0 + j)).toNat).toNat) ((g 42) ((g 61) ((g 46) (0 + j)).toNat).toNat) ((g 62) ((g 46) (0 + j)).toNat) ≠ 0)) i j = true) p1.toInt.toNat (fun i => (g 64) ((g 46) (0 + i)).toNat) p ∧ (∀ i, i < (g 7 0).toNat → (0 ≤ p i ↔ (u 8 0).toNat.testBit i = true)) ∧ (u 8 0 ≠ 0 → wy_c p (u 8 0).toNat (g 7 0).toNat = u 86 (u 8 0).toNat) ∧ rg_c p (g 7 0).toNat = bcz (u 8 0).toNat ∧ (u 8 0).toNat < 2 ^ (g 7 0).toNat) ∧ (u 86 0 = 0)) (okb dC dI dA sz X Γ) (ty_A sz)) ([.ref h0, .int p1] : List Value).toArray s 0 0 (ty_A sz)) (F0 m 48 ls []) := by
          intro n
          induction n with
          | zero => intro v3_48 g34 H locs ls hm hi0 hf35 hb0 hb1 hG hS hl; exfalso; omega
          | succ n ih_48 =>
            intro v3_48 g34 H locs ls hm hi0 hf35 hb0 hb1 hG hS hl
            refine lv_iload_n hx hb dX5_findBest_48 rfl (lv_at hl 0 rfl) ?_
            refine lv_iload_n hx hb dX5_findBest_49 rfl (lv_at hl 1 rfl) ?_
            refine ty_icmp_ge (tgt := 65) hx hb dX5_findBest_50 (by decide) (fun c36 => ?_) (fun c36 => ?_)
            · skip
              have hQ9 : g34 85 = (dd_Q (g 7 0).toNat (fun x y => (F9 x).toNat.testBit y) p1.toInt (g 84) (g 85)) := by rw [hb1, show v3_48.toInt.toNat = 2 ^ (g 7 0).toNat by omega]; rfl
              refine ty_iconst hx hb (1) dX5_findBest_65 (by decide) (fun x37 h38 => ?_)
              refine lv_istore_n (lv' := [(3, .int x37), (2, .int x6), (0, .ref h0), (1, .int p1)]) hx hb dX5_findBest_66 rfl hl (by decide) rfl (fun ls hl => ?_)
              have L_67 : ∀ (n : Nat) (v3_67 : Int32) (g39 : gh) (H : Heap) (locs : List Loc) (ls : Array Slot), (513 - v3_67.toInt : Int) < n → 1 ≤ v3_67.toInt ∧ v3_67.toInt.toNat ≤ 2 ^ (g 7 0).toNat → 0 ≤ g39 8 0 ∧ g39 8 0 ≤ 511 → (∀ c j : Nat, c ≠ 8 → c ≠ 86 → g39 c j = g34 c j) → (g39 86 = dd_wy (dd_Q (g 7 0).toNat (fun x y => (F9 x).toNat.testBit y) p1.toInt (g 84) (g 85)) (g 86) v3_67.toInt.toNat) → (g39 8 0 = ((bs_f (dd_Q (g 7 0).toNat (fun x y => (F9 x).toNat.testBit y) p1.toInt (g 84) (g 85)) (g 86) (fun i => (g 64) ((g 46) (0 + i)).toNat) (g 7 0).toNat v3_67.toInt.toNat : Nat) : Int)) → ty_ok (dC, dI) vwCl Γ (TP dA Γ g39) sz X H → va_S (ty_A sz) s.heap H locs → lv_has ls 4 [(3, .int v3_67), (2, .int x6), (0, .ref h0), (1, .int p1)] → W p l e (headSpec (.code yX5_findBest cX5_findBest 4 (Option.none : Option Jvm.ClassFile.FieldType) :: AL) ({ frames := 3, cells := 0, slots := 0, locals := 74 })).room s m ([.ref h0, .int p1] : List Value).toArray below meth c H locs 0 0 (MQ below (va_Qv (fun (u : gh) => (∀ c j : Nat, c ≠ 8 → c ≠ 83 → c ≠ 84 → c ≠ 85 → c ≠ 86 → u c j = g c j) ∧ ((0 ≤ u 8 0 ∧ u 8 0 ≤ 511)) ∧ (∃ p : Nat → Int, rg_B (g 7 0).toNat (fun i j => (fun i j => decide (i ≠ j ∧ mz_b ((g 66) ((g 46) (0 + i)).toNat) ((g 41) ((g 61) ((g 46) (0 + j)).toNat).toNat) ((g 42) ((g 61) ((g 46) (0 + j)).toNat).toNat) ((g 62) ((g 46) (0 + j)).toNat) ≠ 0)) i j = true) p1.toInt.toNat (fun i => (g 64) ((g 46) (0 + i)).toNat) p ∧ (∀ i, i < (g 7 0).toNat → (0 ≤ p i ↔ (u 8 0).toNat.testBit i = true)) ∧ (u 8 0 ≠ 0 → wy_c p (u 8 0).toNat (g 7 0).toNat = u 86 (u 8 0).toNat) ∧ rg_c p (g 7 0).toNat = bcz (u 8 0).toNat ∧ (u 8 0).toNat < 2 ^ (g 7 0).toNat) ∧ (u 86 0 = 0)) (okb dC dI dA sz X Γ) (ty_A sz)) ([.ref h0, .int p1] : List Value).toArray s 0 0 (ty_A sz)) (F0 m 67 ls []) := by
                intro n
                induction n with
                | zero => intro v3_67 g39 H locs ls hm hi0 hi1 hf40 hq0 hq1 hG hS hl; exfalso; omega
                | succ n ih_67 =>
                  intro v3_67 g39 H locs ls hm hi0 hi1 hf40 hq0 hq1 hG hS hl
                  refine lv_iload_n hx hb dX5_findBest_67 rfl (lv_at hl 0 rfl) ?_
                  refine lv_iload_n hx hb dX5_findBest_68 rfl (lv_at hl 1 rfl) ?_
                  refine ty_icmp_ge (tgt := 113) hx hb dX5_findBest_69 (by decide) (fun c41 => ?_) (fun c41 => ?_)
                  · skip
                    exact W.vret hx hb hr (fun t ht hW => ⟨⟨g39, rfl, ⟨(fun c j h8 h83 h84 h85 h86 => by rw [hf40 c j h8 h86, hf35 c j h84 h85, hf24 c j h84, hf18 c j h84 h85, hf12 c j h83]), (by omega), (by have h9 := dd_find (n := (g 7 0).toNat) (L := L9) (r := g 84) (q := g 85) (W := g 86) (w := (fun i => (g 64) ((g 46) (0 + i)).toNat)) (F := F9) (P := (fun i j => decide (i ≠ j ∧ mz_b (g 66 (g 46 (0 + i)).toNat) (g 41 (g 61 (g 46 (0 + j)).toNat).toNat) (g 42 (g 61 (g 46 (0 + j)).toNat).toNat) (g 62 (g 46 (0 + j)).toNat) ≠ 0))) (by omega) (fun i hi => hFb i (by omega)); rw [show p1.toInt.toNat = L9 by omega]; rw [← hL9] at h9; rw [show (g39 8 0).toNat = bs_f (dd_Q (g 7 0).toNat (fun x y => (F9 x).toNat.testBit y) p1.toInt (g 84) (g 85)) (g 86) (fun i => (g 64) ((g 46) (0 + i)).toNat) (g 7 0).toNat (2 ^ (g 7 0).toNat) by rw [hq1, Int.toNat_natCast, show v3_67.toInt.toNat = 2 ^ (g 7 0).toNat by omega], show g39 86 = dd_wy (dd_Q (g 7 0).toNat (fun x y => (F9 x).toNat.testBit y) p1.toInt (g 84) (g 85)) (g 86) (2 ^ (g 7 0).toNat) by rw [hq0, show v3_67.toInt.toNat = 2 ^ (g 7 0).toNat by omega], show g39 8 0 = ((bs_f (dd_Q (g 7 0).toNat (fun x y => (F9 x).toNat.testBit y) p1.toInt (g 84) (g 85)) (g 86) (fun i => (g 64) ((g 46) (0 + i)).toNat) (g 7 0).toNat (2 ^ (g 7 0).toNat) : Nat) : Int) by rw [hq1, show v3_67.toInt.toNat = 2 ^ (g 7 0).toNat by omega]]; obtain ⟨p, q1, q2, q3, q4, q5⟩ := h9; exact ⟨p, q1, q2, fun h => q3 (by omega), q4, q5⟩), (by rw [hq0, wy_fix0]; exact h860)⟩, ok1 ht hG⟩, hS.F ht⟩) hS.2.2 dX5_findBest_113
                  · skip
                    refine lv_aload_n hx hb dX5_findBest_72 rfl (lv_at hl 2 rfl) ?_
                    refine get_X5_5 hx hb hA hown hE hG t_h0 wd_1_112 dX5_findBest_73 (fun b42 (t_b42 : ty Γ b42 27) => ?_)
                    refine lv_iload_n hx hb dX5_findBest_76 rfl (lv_at hl 0 rfl) ?_
                    refine lv_aload_n hx hb dX5_findBest_77 rfl (lv_at hl 2 rfl) ?_
                    refine lv_iload_n hx hb dX5_findBest_78 rfl (lv_at hl 0 rfl) ?_
                    refine cI (va_runV (C := RX5) (As := [.int v3_67]) (rest := [.int v3_67, .ref b42]) ⟨hx, hb, hml, hown, hA⟩ (k_X5_firstWay l dC dI dA sz X Γ hU g39 h0 t_h0 v3_67   (by omega) (fun q hq => by rw [(show g39 85 = g34 85 from funext fun j => hf40 85 j (by decide) (by decide)), hQ9]; exact dd_Qb (by omega) (by omega)) (fun q h1 h2 => by rw [hq0, hL9]; exact dd_Wb (by omega) (by omega) h1 h2)) ⟨callB_of 1 hA (al_A wd_3_162) rfl rfl rfl (hA _ wd_1_5) (hA _ wd_3_159) (by decide +kernel) ⟨Nat.le_of_ble_eq_true rfl, Nat.le_of_ble_eq_true rfl⟩, hA _ wd_3_161, hA _ ws_23⟩ ⟨bl, recv_X5 hE hG t_h0, fun U hU9 hW9 => ⟨rfl, by rw [hU9]; exact hG, hE.go hS hU9 hW9⟩⟩ rfl rfl hl.1 rfl (lv_room (Nat.le_of_ble_eq_true rfl)) dX5_findBest_79 ⟨Nat.zero_le _, Nat.zero_le _⟩) hS (fun x45 u43 H locs w44 hG hS => ?_)
                    obtain ⟨eu46, w44⟩ := w44
                    rw [eu46] at hG
                    rw [show g39 85 = (dd_Q (g 7 0).toNat (fun x y => (F9 x).toNat.testBit y) p1.toInt (g 84) (g 85)) by rw [(show g39 85 = g34 85 from funext fun j => hf40 85 j (by decide) (by decide)), hQ9]] at w44
                    rw [show g39 86 = (dd_wy (dd_Q (g 7 0).toNat (fun x y => (F9 x).toNat.testBit y) p1.toInt (g 84) (g 85)) (g 86) v3_67.toInt.toNat) by rw [hq0]] at w44
                    refine ast_27 hx hb hE hG hS hU t_b42 (by omega) dX5_findBest_82 (fun H locs hG hS => ?_)
                    rw [show v3_67.toInt.toNat = (v3_67.toInt.toNat) by omega] at hG
                    have hwy9 : (gs g39 86 (v3_67.toInt.toNat) x45.toInt) 86 = dd_wy (dd_Q (g 7 0).toNat (fun x y => (F9 x).toNat.testBit y) p1.toInt (g 84) (g 85)) (g 86) (v3_67.toInt.toNat + 1) := by rw [pz_gs, dd_wy_s (by omega), hq0]; exact pz_upc rfl w44
                    have hwv9 : x45.toInt = dd_wy (dd_Q (g 7 0).toNat (fun x y => (F9 x).toNat.testBit y) p1.toInt (g 84) (g 85)) (g 86) (v3_67.toInt.toNat + 1) v3_67.toInt.toNat := by rw [← hwy9, gs_self]
                    have hwb9 : dd_wy (dd_Q (g 7 0).toNat (fun x y => (F9 x).toNat.testBit y) p1.toInt (g 84) (g 85)) (g 86) (v3_67.toInt.toNat + 1) v3_67.toInt.toNat = dp_N ∨ (0 ≤ dd_wy (dd_Q (g 7 0).toNat (fun x y => (F9 x).toNat.testBit y) p1.toInt (g 84) (g 85)) (g 86) (v3_67.toInt.toNat + 1) v3_67.toInt.toNat ∧ dd_wy (dd_Q (g 7 0).toNat (fun x y => (F9 x).toNat.testBit y) p1.toInt (g 84) (g 85)) (g 86) (v3_67.toInt.toNat + 1) v3_67.toInt.toNat ≤ 888888888) := by rw [hL9]; exact dd_Wb (by omega) (by omega) (by omega) (by omega)
                    unfold dp_N at hwb9
                    have hbl9 : bs_f (dd_Q (g 7 0).toNat (fun x y => (F9 x).toNat.testBit y) p1.toInt (g 84) (g 85)) (g 86) (fun i => (g 64) ((g 46) (0 + i)).toNat) (g 7 0).toNat v3_67.toInt.toNat < 2 ^ (g 7 0).toNat := by rcases bs_lt (Q := (dd_Q (g 7 0).toNat (fun x y => (F9 x).toNat.testBit y) p1.toInt (g 84) (g 85))) (W := g 86) (w := (fun i => (g 64) ((g 46) (0 + i)).toNat)) (n := (g 7 0).toNat) v3_67.toInt.toNat with h9 | h9 <;> omega
                    refine lv_aload_n hx hb dX5_findBest_83 rfl (lv_at hl 2 rfl) ?_
                    refine get_X5_5 hx hb hA hown hE hG t_h0 wd_1_112 dX5_findBest_84 (fun b47 (t_b47 : ty Γ b47 27) => ?_)
                    refine lv_iload_n hx hb dX5_findBest_87 rfl (lv_at hl 0 rfl) ?_
                    refine ald_27 hx hb hE hG t_b47 (by omega) dX5_findBest_88 (fun j49 x48 h50 h51 => ?_)
                    obtain rfl : j49 = v3_67.toInt.toNat := by omega
                    rw [show v3_67.toInt.toNat = (v3_67.toInt.toNat) by omega] at h51
                    replace h51 : x48.toInt = x45.toInt := by rw [h51, gs_self]
                    refine ty_ldc hx hb (2147483647) hown (hA _ wd_3_135) dX5_findBest_89 (by decide) (fun x52 h53 => ?_)
                    refine ty_icmp_eq (tgt := 107) hx hb dX5_findBest_91 (by decide) (fun c54 => ?_) (fun c54 => ?_)
                    · skip
                      obtain ⟨x55, h56⟩ : ∃ y : Int32, y = v3_67 + Int32.ofInt (1) := ⟨_, rfl⟩
                      try have h57 : x55.toInt = v3_67.toInt + (1) := ty_inc h56 (by decide) (by omega) (by omega)
                      refine lv_iinc (v := x55) (lv' := [(3, .int x55), (2, .int x6), (0, .ref h0), (1, .int p1)]) hx hb dX5_findBest_107 hl (k := 0) rfl h56.symm (by decide) rfl (fun ls hl => ?_)
                      refine lv_goto (tgt := 67) hx hb dX5_findBest_110 (by decide) ?_
                      have e58 : (gs g39 86 (v3_67.toInt.toNat) x45.toInt) 8 0 = g39 8 0 := by rw [gs_c _ _ _ _ (by decide)]
                      have e59 : (gs g39 86 (v3_67.toInt.toNat) x45.toInt) 8 0 = g39 8 0 := by rw [gs_c _ _ _ _ (by decide)]
                      exact ih_67 x55 (gs g39 86 (v3_67.toInt.toNat) x45.toInt) _ _ ls (by omega) (by omega) (by omega) (fun c j h8 h86 => by rw [gs_c _ _ _ _ h86, hf40 c j h8 h86]) (by rw [show x55.toInt.toNat = v3_67.toInt.toNat + 1 by omega, ← hwy9]) (by rw [show x55.toInt.toNat = v3_67.toInt.toNat + 1 by omega, bs_n (Or.inl (by rw [← hwv9]; unfold dp_N; omega))]; omega) hG hS (lv_sub hl [0, 1, 2, 3] rfl)
                    · skip
                      refine lv_aload_n hx hb dX5_findBest_94 rfl (lv_at hl 2 rfl) ?_
                      refine lv_iload_n hx hb dX5_findBest_95 rfl (lv_at hl 0 rfl) ?_
                      have e60 : (gs g39 86 (v3_67.toInt.toNat) x45.toInt) 8 0 = g39 8 0 := by rw [gs_c _ _ _ _ (by decide)]
                      have hb89 : ((gs g39 86 (v3_67.toInt.toNat) x45.toInt) 8 0).toNat = bs_f (dd_Q (g 7 0).toNat (fun x y => (F9 x).toNat.testBit y) p1.toInt (g 84) (g 85)) (g 86) (fun i => (g 64) ((g 46) (0 + i)).toNat) (g 7 0).toNat v3_67.toInt.toNat := by omega
                      have hbb9 : 0 ≤ dd_wy (dd_Q (g 7 0).toNat (fun x y => (F9 x).toNat.testBit y) p1.toInt (g 84) (g 85)) (g 86) (v3_67.toInt.toNat + 1) (bs_f (dd_Q (g 7 0).toNat (fun x y => (F9 x).toNat.testBit y) p1.toInt (g 84) (g 85)) (g 86) (fun i => (g 64) ((g 46) (0 + i)).toNat) (g 7 0).toNat v3_67.toInt.toNat) ∧ dd_wy (dd_Q (g 7 0).toNat (fun x y => (F9 x).toNat.testBit y) p1.toInt (g 84) (g 85)) (g 86) (v3_67.toInt.toNat + 1) (bs_f (dd_Q (g 7 0).toNat (fun x y => (F9 x).toNat.testBit y) p1.toInt (g 84) (g 85)) (g 86) (fun i => (g 64) ((g 46) (0 + i)).toNat) (g 7 0).toNat v3_67.toInt.toNat) ≤ 888888888 := by rw [hL9]; exact bs_Wb (by omega) (by omega) h860
                      have hk61 : g39 7 0 = g34 7 0 := hf40 7 0 (by decide) (by decide)
                      have hk62 : g34 7 0 = g23 7 0 := hf35 7 0 (by decide) (by decide)
                      have e63 : (gs g39 86 (v3_67.toInt.toNat) x45.toInt) 7 0 = g39 7 0 := by rw [gs_c _ _ _ _ (by decide)]
                      have e64 : (gs g39 86 (v3_67.toInt.toNat) x45.toInt) 7 0 = g39 7 0 := by rw [gs_c _ _ _ _ (by decide)]
                      have e65 : (gs g39 86 (v3_67.toInt.toNat) x45.toInt) 7 0 = g39 7 0 := by rw [gs_c _ _ _ _ (by decide)]
                      have e66 : (gs g39 86 (v3_67.toInt.toNat) x45.toInt) 86 v3_67.toInt.toNat = (pz_up (dd_wy (dd_Q (g 7 0).toNat (fun x y => (F9 x).toNat.testBit y) p1.toInt (g 84) (g 85)) (g 86) v3_67.toInt.toNat) (v3_67.toInt.toNat) x45.toInt) v3_67.toInt.toNat := by rw [pz_gs, hq0]
                      have e67 : (gs g39 86 (v3_67.toInt.toNat) x45.toInt) 8 0 = g39 8 0 := by rw [gs_c _ _ _ _ (by decide)]
                      have e68 : (gs g39 86 (v3_67.toInt.toNat) x45.toInt) 8 0 = g39 8 0 := by rw [gs_c _ _ _ _ (by decide)]
                      have e69 : (gs g39 86 (v3_67.toInt.toNat) x45.toInt) 7 0 = g39 7 0 := by rw [gs_c _ _ _ _ (by decide)]
                      have e70 : (gs g39 86 (v3_67.toInt.toNat) x45.toInt) 8 0 = g39 8 0 := by rw [gs_c _ _ _ _ (by decide)]
                      refine cI (va_runV (C := RX5) (As := [.int v3_67]) (rest := []) ⟨hx, hb, hml, hown, hA⟩ (k_X5_isBetter l dC dI dA sz X Γ hU (gs g39 86 (v3_67.toInt.toNat) x45.toInt) h0 t_h0 v3_67   (by omega) (fun j hj => by rw [show (gs g39 86 (v3_67.toInt.toNat) x45.toInt) 46 = g 46 from funext fun j => by rw [gs_c _ _ _ _ (by decide), hf40 46 j (by decide) (by decide), hf35 46 j (by decide) (by decide), hf24 46 j (by decide), hf18 46 j (by decide) (by decide), hf12 46 j (by decide)]]; exact hM j (by omega)) (by omega) (fun i hi => by rw [show (gs g39 86 (v3_67.toInt.toNat) x45.toInt) 46 = g 46 from funext fun j => by rw [gs_c _ _ _ _ (by decide), hf40 46 j (by decide) (by decide), hf35 46 j (by decide) (by decide), hf24 46 j (by decide), hf18 46 j (by decide) (by decide), hf12 46 j (by decide)]]; rw [show (gs g39 86 (v3_67.toInt.toNat) x45.toInt) 64 = g 64 from funext fun j => by rw [gs_c _ _ _ _ (by decide), hf40 64 j (by decide) (by decide), hf35 64 j (by decide) (by decide), hf24 64 j (by decide), hf18 64 j (by decide) (by decide), hf12 64 j (by decide)]]; exact h64 i (by omega)) (by rw [hwy9]; omega) (by omega) (by rw [hb89, hwy9]; exact hbb9)) ⟨callB_of 1 hA (al_A wd_3_166) rfl rfl rfl (hA _ wd_1_5) (hA _ wd_3_163) (by decide +kernel) ⟨Nat.le_of_ble_eq_true rfl, Nat.le_of_ble_eq_true rfl⟩, hA _ wd_3_165, hA _ ws_24⟩ ⟨bl, recv_X5 hE hG t_h0, fun U hU9 hW9 => ⟨rfl, by rw [hU9]; exact hG, hE.go hS hU9 hW9⟩⟩ rfl rfl hl.1 rfl (lv_room (Nat.le_of_ble_eq_true rfl)) dX5_findBest_96 ⟨Nat.zero_le _, Nat.zero_le _⟩) hS (fun x73 u71 H locs w72 hG hS => ?_)
                      obtain ⟨eu74, w72⟩ := w72
                      rw [eu74] at hG
                      rw [show (gs g39 86 (v3_67.toInt.toNat) x45.toInt) 86 = (pz_up (dd_wy (dd_Q (g 7 0).toNat (fun x y => (F9 x).toNat.testBit y) p1.toInt (g 84) (g 85)) (g 86) v3_67.toInt.toNat) (v3_67.toInt.toNat) x45.toInt) by rw [pz_gs, hq0]] at w72
                      rw [show (gs g39 86 (v3_67.toInt.toNat) x45.toInt) 64 = (g 64) by rw [gs_r _ _ _ (by decide), (show g39 64 = g34 64 from funext fun j => hf40 64 j (by decide) (by decide)), (show g34 64 = g23 64 from funext fun j => hf35 64 j (by decide) (by decide)), (show g23 64 = u14 64 from funext fun j => hf24 64 j (by decide)), (show u14 64 = u9 64 from funext fun j => hf18 64 j (by decide) (by decide)), (show u9 64 = g 64 from funext fun j => hf12 64 j (by decide))]] at w72
                      rw [show (gs g39 86 (v3_67.toInt.toNat) x45.toInt) 46 = (g 46) by rw [gs_r _ _ _ (by decide), (show g39 46 = g34 46 from funext fun j => hf40 46 j (by decide) (by decide)), (show g34 46 = g23 46 from funext fun j => hf35 46 j (by decide) (by decide)), (show g23 46 = u14 46 from funext fun j => hf24 46 j (by decide)), (show u14 46 = u9 46 from funext fun j => hf18 46 j (by decide) (by decide)), (show u9 46 = g 46 from funext fun j => hf12 46 j (by decide))]] at w72
                      have e75 : (gs g39 86 (v3_67.toInt.toNat) x45.toInt) 7 0 = g39 7 0 := by rw [gs_c _ _ _ _ (by decide)]
                      have htx9 : (pz_up (dd_wy (dd_Q (g 7 0).toNat (fun x y => (F9 x).toNat.testBit y) p1.toInt (g 84) (g 85)) (g 86) v3_67.toInt.toNat) (v3_67.toInt.toNat) x45.toInt) = dd_wy (dd_Q (g 7 0).toNat (fun x y => (F9 x).toNat.testBit y) p1.toInt (g 84) (g 85)) (g 86) (v3_67.toInt.toNat + 1) := by rw [← hwy9]; rw [pz_gs, hq0]
                      have hbt9 : x73.toInt = (if bt_b (dd_wy (dd_Q (g 7 0).toNat (fun x y => (F9 x).toNat.testBit y) p1.toInt (g 84) (g 85)) (g 86) (v3_67.toInt.toNat + 1)) (fun i => (g 64) ((g 46) (0 + i)).toNat) (g 7 0).toNat v3_67.toInt.toNat (bs_f (dd_Q (g 7 0).toNat (fun x y => (F9 x).toNat.testBit y) p1.toInt (g 84) (g 85)) (g 86) (fun i => (g 64) ((g 46) (0 + i)).toNat) (g 7 0).toNat v3_67.toInt.toNat) = true then 1 else 0) := by have h9 := w72; rw [hb89, show (gs g39 86 (v3_67.toInt.toNat) x45.toInt) 7 0 = g 7 0 by omega, htx9] at h9; exact h9
                      refine ty_if_eq (tgt := 107) hx hb dX5_findBest_99 (by decide) (fun c76 => ?_) (fun c76 => ?_)
                      · skip
                        obtain ⟨x77, h78⟩ : ∃ y : Int32, y = v3_67 + Int32.ofInt (1) := ⟨_, rfl⟩
                        try have h79 : x77.toInt = v3_67.toInt + (1) := ty_inc h78 (by decide) (by omega) (by omega)
                        refine lv_iinc (v := x77) (lv' := [(3, .int x77), (2, .int x6), (0, .ref h0), (1, .int p1)]) hx hb dX5_findBest_107 hl (k := 0) rfl h78.symm (by decide) rfl (fun ls hl => ?_)
                        refine lv_goto (tgt := 67) hx hb dX5_findBest_110 (by decide) ?_
                        have e80 : (gs g39 86 (v3_67.toInt.toNat) x45.toInt) 8 0 = g39 8 0 := by rw [gs_c _ _ _ _ (by decide)]
                        have e81 : (gs g39 86 (v3_67.toInt.toNat) x45.toInt) 8 0 = g39 8 0 := by rw [gs_c _ _ _ _ (by decide)]
                        exact ih_67 x77 (gs g39 86 (v3_67.toInt.toNat) x45.toInt) _ _ ls (by omega) (by omega) (by omega) (fun c j h8 h86 => by rw [gs_c _ _ _ _ h86, hf40 c j h8 h86]) (by rw [show x77.toInt.toNat = v3_67.toInt.toNat + 1 by omega, ← hwy9]) (by rw [show x77.toInt.toNat = v3_67.toInt.toNat + 1 by omega, bs_n (Or.inr (fun q => by rw [if_pos q] at hbt9; omega))]; omega) hG hS (lv_sub hl [0, 1, 2, 3] rfl)
                      · skip
                        refine lv_aload_n hx hb dX5_findBest_102 rfl (lv_at hl 2 rfl) ?_
                        refine lv_iload_n hx hb dX5_findBest_103 rfl (lv_at hl 0 rfl) ?_
                        refine put_X5_6 hx hb hA hown hE hG hS hU t_h0 wd_1_113 dX5_findBest_104 (fun H locs hG hS => ?_)
                        obtain ⟨x82, h83⟩ : ∃ y : Int32, y = v3_67 + Int32.ofInt (1) := ⟨_, rfl⟩
                        try have h84 : x82.toInt = v3_67.toInt + (1) := ty_inc h83 (by decide) (by omega) (by omega)
                        refine lv_iinc (v := x82) (lv' := [(3, .int x82), (2, .int x6), (0, .ref h0), (1, .int p1)]) hx hb dX5_findBest_107 hl (k := 0) rfl h83.symm (by decide) rfl (fun ls hl => ?_)
                        refine lv_goto (tgt := 67) hx hb dX5_findBest_110 (by decide) ?_
                        have e85 : (gs (gs g39 86 (v3_67.toInt.toNat) x45.toInt) 8 0 v3_67.toInt) 8 0 = v3_67.toInt := by rw [gs_self]
                        have e86 : (gs (gs g39 86 (v3_67.toInt.toNat) x45.toInt) 8 0 v3_67.toInt) 8 0 = v3_67.toInt := by rw [gs_self]
                        exact ih_67 x82 (gs (gs g39 86 (v3_67.toInt.toNat) x45.toInt) 8 0 v3_67.toInt) _ _ ls (by omega) (by omega) (by omega) (fun c j h8 h86 => by rw [gs_c _ _ _ _ h8, gs_c _ _ _ _ h86, hf40 c j h8 h86]) (by rw [show x82.toInt.toNat = v3_67.toInt.toNat + 1 by omega, ← hwy9, gs_r _ _ _ (by decide)]) (by rw [show x82.toInt.toNat = v3_67.toInt.toNat + 1 by omega, bs_y (by omega) (by rw [← hwv9]; unfold dp_N; omega) (Classical.byContradiction (fun q => by rw [if_neg q] at hbt9; omega))]; omega) hG hS (lv_sub hl [0, 1, 2, 3] rfl)
              have hk87 : g34 8 0 = g23 8 0 := hf35 8 0 (by decide) (by decide)
              have hk88 : g23 8 0 = u14 8 0 := hf24 8 0 (by decide)
              have hk89 : u14 8 0 = u9 8 0 := hf18 8 0 (by decide) (by decide)
              have hk90 : u9 8 0 = g 8 0 := hf12 8 0 (by decide)
              exact L_67 ((513 - x37.toInt) + 1).toNat x37 g34 _ _ ls (by omega) (by omega) (by omega) (fun c j _ _ => rfl) (by rw [(show g34 86 = g23 86 from funext fun j => hf35 86 j (by decide) (by decide)), (show g23 86 = u14 86 from funext fun j => hf24 86 j (by decide)), (show u14 86 = u9 86 from funext fun j => hf18 86 j (by decide) (by decide)), (show u9 86 = g 86 from funext fun j => hf12 86 j (by decide)), show x37.toInt.toNat = 1 by omega, dd_wy_1]) (by rw [show x37.toInt.toNat = 1 by omega, bs_1]; omega) hG hS (lv_sub hl [0, 1, 2, 3] rfl)
            · skip
              refine lv_aload_n hx hb dX5_findBest_53 rfl (lv_at hl 2 rfl) ?_
              refine lv_iload_n hx hb dX5_findBest_54 rfl (lv_at hl 0 rfl) ?_
              refine lv_iload_n hx hb dX5_findBest_55 rfl (lv_at hl 3 rfl) ?_
              have hk91 : g34 7 0 = g23 7 0 := hf35 7 0 (by decide) (by decide)
              refine cV (va_runV (C := RX5) (As := [.int v3_48, .int p1]) (rest := []) ⟨hx, hb, hml, hown, hA⟩ (k_X5_goOnFrom l dC dI dA sz X Γ hU g34 h0 t_h0 v3_48 p1   (by omega) (by omega) (fun j hj => by rw [(show g34 83 = g23 83 from funext fun j => hf35 83 j (by decide) (by decide)), (show g23 83 = u14 83 from funext fun j => hf24 83 j (by decide)), (show u14 83 = u9 83 from funext fun j => hf18 83 j (by decide) (by decide)), hF13, hFb j (by omega)]; have h9 := sm_lt (P := (fun i j => decide (i ≠ j ∧ mz_b (g 66 (g 46 (0 + i)).toNat) (g 41 (g 61 (g 46 (0 + j)).toNat).toNat) (g 42 (g 61 (g 46 (0 + j)).toNat).toNat) (g 62 (g 46 (0 + j)).toNat) ≠ 0)) j) (g 7 0).toNat; omega) (fun z hz => by rw [hb0]; exact (dd_bnd (by omega) (T := v3_48.toInt.toNat) (by omega) (S := v3_48.toInt.toNat) (by omega)).1 z (by omega))) ⟨callB_of 2 hA (al_A wd_3_139) rfl rfl rfl (hA _ wd_1_5) (hA _ wd_3_136) (by decide +kernel) ⟨Nat.le_of_ble_eq_true rfl, Nat.le_of_ble_eq_true rfl⟩, hA _ wd_3_138, hA _ ws_21⟩ ⟨bl, recv_X5 hE hG t_h0, fun U hU9 hW9 => ⟨rfl, by rw [hU9]; exact hG, hE.go hS hU9 hW9⟩⟩ rfl rfl hl.1 rfl (lv_room (Nat.le_of_ble_eq_true rfl)) dX5_findBest_56 ⟨Nat.zero_le _, Nat.zero_le _⟩) hS (fun u92 H locs w93 hG hS => ?_)
              obtain ⟨hf96, hq94, hq95⟩ := w93
              have hn97 : g34 83 = F9 := by rw [(show g34 83 = g23 83 from funext fun j => hf35 83 j (by decide) (by decide)), (show g23 83 = u14 83 from funext fun j => hf24 83 j (by decide)), (show u14 83 = u9 83 from funext fun j => hf18 83 j (by decide) (by decide)), hF13]
              rw [hn97] at hq94
              have hn98 : g34 84 = ((dd_all (g 7 0).toNat (fun x y => (F9 x).toNat.testBit y) p1.toInt (si_f (fz (g 84) 0 dp_N (9 * 2 ^ (g 7 0).toNat)) (g 7 0).toNat) (fz (g 85) 0 dp_N (2 ^ (g 7 0).toNat)) v3_48.toInt.toNat).1) := by rw [hb0]
              rw [hn98] at hq94
              have hn99 : g34 85 = ((dd_all (g 7 0).toNat (fun x y => (F9 x).toNat.testBit y) p1.toInt (si_f (fz (g 84) 0 dp_N (9 * 2 ^ (g 7 0).toNat)) (g 7 0).toNat) (fz (g 85) 0 dp_N (2 ^ (g 7 0).toNat)) v3_48.toInt.toNat).2) := by rw [hb1]
              rw [hn99] at hq94
              have hn100 : g34 7 0 = g 7 0 := by rw [hf35 7 0 (by decide) (by decide), hf24 7 0 (by decide), hf18 7 0 (by decide) (by decide), hf12 7 0 (by decide)]
              try rw [hn100] at hq94
              have hn101 : g34 83 = F9 := by rw [(show g34 83 = g23 83 from funext fun j => hf35 83 j (by decide) (by decide)), (show g23 83 = u14 83 from funext fun j => hf24 83 j (by decide)), (show u14 83 = u9 83 from funext fun j => hf18 83 j (by decide) (by decide)), hF13]
              rw [hn101] at hq95
              have hn102 : g34 84 = ((dd_all (g 7 0).toNat (fun x y => (F9 x).toNat.testBit y) p1.toInt (si_f (fz (g 84) 0 dp_N (9 * 2 ^ (g 7 0).toNat)) (g 7 0).toNat) (fz (g 85) 0 dp_N (2 ^ (g 7 0).toNat)) v3_48.toInt.toNat).1) := by rw [hb0]
              rw [hn102] at hq95
              have hn103 : g34 85 = ((dd_all (g 7 0).toNat (fun x y => (F9 x).toNat.testBit y) p1.toInt (si_f (fz (g 84) 0 dp_N (9 * 2 ^ (g 7 0).toNat)) (g 7 0).toNat) (fz (g 85) 0 dp_N (2 ^ (g 7 0).toNat)) v3_48.toInt.toNat).2) := by rw [hb1]
              rw [hn103] at hq95
              have hn104 : g34 7 0 = g 7 0 := by rw [hf35 7 0 (by decide) (by decide), hf24 7 0 (by decide), hf18 7 0 (by decide) (by decide), hf12 7 0 (by decide)]
              try rw [hn104] at hq95
              obtain ⟨x105, h106⟩ : ∃ y : Int32, y = v3_48 + Int32.ofInt (1) := ⟨_, rfl⟩
              try have h107 : x105.toInt = v3_48.toInt + (1) := ty_inc h106 (by decide) (by omega) (by omega)
              refine lv_iinc (v := x105) (lv' := [(3, .int x105), (2, .int x6), (0, .ref h0), (1, .int p1)]) hx hb dX5_findBest_59 hl (k := 0) rfl h106.symm (by decide) rfl (fun ls hl => ?_)
              refine lv_goto (tgt := 48) hx hb dX5_findBest_62 (by decide) ?_
              exact ih_48 x105 u92 _ _ ls (by omega) (by omega) (fun c j h84 h85 => by rw [hf96 c j h84 h85, hf35 c j h84 h85]) (by rw [show x105.toInt.toNat = v3_48.toInt.toNat + 1 by omega, (dd_all_s (show v3_48.toInt.toNat ≠ 0 by omega)).1]; rw [hq94]) (by rw [show x105.toInt.toNat = v3_48.toInt.toNat + 1 by omega, (dd_all_s (show v3_48.toInt.toNat ≠ 0 by omega)).2]; rw [hq95]) hG hS (lv_sub hl [0, 1, 2, 3] rfl)
        exact L_48 ((513 - x32.toInt) + 1).toNat x32 g23 _ _ ls (by omega) (by omega) (fun c j _ _ => rfl) (by rw [show x32.toInt.toNat = 1 by omega, dd_all_1]; show g23 84 = _; rw [ha0, show v3_18.toInt.toNat = (g 7 0).toNat by omega]) (by rw [show x32.toInt.toNat = 1 by omega, dd_all_1]; show g23 85 = _; rw [(show g23 85 = u14 85 from funext fun j => hf24 85 j (by decide)), hq17, hsz9]) hG hS (lv_sub hl [0, 1, 2, 3] rfl)
      · skip
        refine lv_aload_n hx hb dX5_findBest_26 rfl (lv_at hl 2 rfl) ?_
        refine get_X5_3 hx hb hA hown hE hG t_h0 wd_1_110 dX5_findBest_27 (fun b108 (t_b108 : ty Γ b108 21) => ?_)
        refine ty_iconst hx hb (1) dX5_findBest_30 (by decide) (fun x109 h110 => ?_)
        refine lv_iload_n hx hb dX5_findBest_31 rfl (lv_at hl 0 rfl) ?_
        refine lv_ishl hx hb dX5_findBest_32 ?_
        refine lv_topi (fun x111 h112 => ?_)
        have h113 := shl_pw h112 (by omega) (by omega) (by omega)
        have hpn9 := pw_n (z := v3_18.toInt)
        have hp8 := p2_le8 (z := v3_18.toInt.toNat) (by omega)
        refine ty_bipush hx hb (9) dX5_findBest_33 (by decide) (fun x114 h115 => ?_)
        refine ty_imul hx hb dX5_findBest_35 (fun x116 h117 => ?_)
        try have h118 : x116.toInt = x111.toInt * 9 := ty_mulr h117 (by omega) (by omega) (by omega)
        refine lv_iload_n hx hb dX5_findBest_36 rfl (lv_at hl 0 rfl) ?_
        refine ty_iadd hx hb dX5_findBest_37 (fun x119 h120 => ?_)
        try have h121 : x119.toInt = x116.toInt + v3_18.toInt := ty_add h120 (by omega) (by omega)
        refine ty_iconst hx hb (0) dX5_findBest_38 (by decide) (fun x122 h123 => ?_)
        refine ast_21 hx hb hE hG hS hU t_b108 (by omega) dX5_findBest_39 (fun H locs hG hS => ?_)
        rw [show x119.toInt.toNat = (2 ^ v3_18.toInt.toNat * 9 + v3_18.toInt.toNat) by omega] at hG
        obtain ⟨x124, h125⟩ : ∃ y : Int32, y = v3_18 + Int32.ofInt (1) := ⟨_, rfl⟩
        try have h126 : x124.toInt = v3_18.toInt + (1) := ty_inc h125 (by decide) (by omega) (by omega)
        refine lv_iinc (v := x124) (lv' := [(3, .int x124), (2, .int x6), (0, .ref h0), (1, .int p1)]) hx hb dX5_findBest_40 hl (k := 0) rfl h125.symm (by decide) rfl (fun ls hl => ?_)
        refine lv_goto (tgt := 18) hx hb dX5_findBest_43 (by decide) ?_
        have e127 : (gs g23 84 (2 ^ v3_18.toInt.toNat * 9 + v3_18.toInt.toNat) x122.toInt) 7 0 = g23 7 0 := by rw [gs_c _ _ _ _ (by decide)]
        exact ih_18 x124 (gs g23 84 (2 ^ v3_18.toInt.toNat * 9 + v3_18.toInt.toNat) x122.toInt) _ _ ls (by omega) (by omega) (fun c j h84 => by rw [gs_c _ _ _ _ h84, hf24 c j h84]) (by rw [pz_gs]; rw [ha0, show x124.toInt.toNat = v3_18.toInt.toNat + 1 by omega]; exact pz_upc rfl (by omega)) hG hS (lv_sub hl [0, 1, 2, 3] rfl)
  have hk128 : u14 7 0 = u9 7 0 := hf18 7 0 (by decide) (by decide)
  have hk129 : u9 7 0 = g 7 0 := hf12 7 0 (by decide)
  exact L_18 ((u14 7 0 - x21.toInt) + 1).toNat x21 u14 _ _ ls (by omega) (by omega) (fun c j _ => rfl) (by rw [hq16, hsz9, show x21.toInt.toNat = 0 by omega]; rfl) hG hS (lv_sub hl [0, 1, 2, 3] rfl)
