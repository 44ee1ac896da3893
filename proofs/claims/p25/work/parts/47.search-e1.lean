set_option maxHeartbeats 4000000 in
set_option maxRecDepth 100000 in
/-- WeekBank$RingSearch.swap:  -/
theorem k_X5_swap (l : Launch) (dC : Nat → ClassId) (dI : Nat → Nat → Nat) (dA : Nat → ClassId) (sz : Nat) (X : va_W) (Γ : ty_G) (hU : Un Γ) (g : gh) (h0 : Nat) (t_h0 : ty Γ h0 8) (p1 k : Nat) (t_p1 : Γ p1 = (4, k)) (p2 : Int32) (hs : 0 ≤ g 7 0 ∧ g 7 0 ≤ 9) (hM : ∀ j : Nat, (j : Int) < g 7 0 → 0 ≤ g 46 (0 + j)) (h2 : 0 ≤ p2.toInt ∧ p2.toInt < g 7 0) : Met l yX5_swap (.code yX5_swap cX5_swap 3 (Option.none : Option Jvm.ClassFile.FieldType) :: AL) ({ frames := 0, cells := 0, slots := 0, locals := 0 }) (PCx dC dI dA sz X Γ g [.ref h0, .ref p1, .int p2]) (va_Qv (fun (u : gh) => (∀ c j : Nat, c ≠ 65 → c ≠ 67 → c ≠ 68 → u c j = g c j) ∧ (u 65 = pz_up (g 65) k 1) ∧ (u 67 = pz_up (g 67) k (g 46 (0 + p2.toInt.toNat))) ∧ (u 68 = pz_up (g 68) (g 46 (0 + p2.toInt.toNat)).toNat (g 60 k))) (okb dC dI dA sz X Γ) (ty_A sz)) 0 0 (ty_A sz) := by
  refine Met.ofW (cc := cX5_swap) (maxL := 3) (ret := (Option.none : Option Jvm.ClassFile.FieldType)) (by decide) rfl ?_
  intro p e s m args below meth c s₁ B hml hv
  obtain ⟨rfl, hG, hE⟩ := hv
  have hx := B.exec
  have hb := B.bytes
  have hr := B.returns
  have hts := atoms_spec B.pre
  have hA : ∀ w ∈ AL, w.before _ s = true := fun w h => hts w (List.mem_cons_of_mem _ h)
  have hown : s.vm.findClass RX5 = some m.cls := findClass_of_methodNamed B.named
  have hlocks := B.notSynchronized
  have hS : va_S (ty_A sz) s.heap s.heap [] := va_S.rf
  have hl := lv_entry ([.ref h0, .ref p1, .int p2]) (n := 3) (Nat.le_of_ble_eq_true rfl)
  rw [lg_entry_eq]
  generalize (lg_sl ([.ref h0, .ref p1, .int p2]) ++ List.replicate (3 - (lg_sl ([.ref h0, .ref p1, .int p2])).length) Slot.unset).toArray = ls at hl ⊢
  have hl : lv_has ls 3 [(0, .ref h0), (1, .ref p1), (2, .int p2)] := hl
  refine lv_iload_n hx hb dX5_swap_0 rfl (lv_at hl 2 rfl) ?_
  refine ty_if_lt (tgt := 40) hx hb dX5_swap_1 (by decide) (fun c1 => ?_) (fun c1 => ?_)
  · exfalso; omega
  · skip
    refine lv_iload_n hx hb dX5_swap_4 rfl (lv_at hl 2 rfl) ?_
    refine lv_aload_n hx hb dX5_swap_5 rfl (lv_at hl 0 rfl) ?_
    refine get_X5_1 hx hb hA hown hE hG t_h0 wd_1_108 dX5_swap_6 (fun x2 h3 => ?_)
    refine ty_icmp_ge (tgt := 40) hx hb dX5_swap_9 (by decide) (fun c5 => ?_) (fun c5 => ?_)
    · exfalso; omega
    · skip
      refine lv_aload_n hx hb dX5_swap_12 rfl (lv_at hl 1 rfl) ?_
      refine ty_iconst hx hb (1) dX5_swap_13 (by decide) (fun x6 h7 => ?_)
      refine put_X2_6 hx hb hA hown hE hG hS hU t_p1 wd_3_33 dX5_swap_14 (fun H locs hG hS => ?_)
      refine lv_aload_n hx hb dX5_swap_17 rfl (lv_at hl 1 rfl) ?_
      refine lv_aload_n hx hb dX5_swap_18 rfl (lv_at hl 0 rfl) ?_
      refine get_X5_0 hx hb hA hown hE hG t_h0 wd_1_107 dX5_swap_19 (fun b8 (t_b8 : ty Γ b8 19) => ?_)
      refine lv_iload_n hx hb dX5_swap_22 rfl (lv_at hl 2 rfl) ?_
      refine ald_19 hx hb hE hG t_b8 (by omega) dX5_swap_23 (fun j10 r9 h11 n_r9 t_r9 => ?_)
      obtain rfl : j10 = p2.toInt.toNat := by omega
      clear h11
      replace n_r9 : r9 = none → g 46 (0 + p2.toInt.toNat) = -1 := fun h9 => by have h8 := n_r9 h9; rw [gs_c _ _ _ _ (by decide)] at h8; exact h8
      replace t_r9 : ∀ b, r9 = some b → Γ b = (4, (g 46 (0 + p2.toInt.toNat)).toNat) ∧ 0 ≤ g 46 (0 + p2.toInt.toNat) := fun b h9 => by have h8 := t_r9 b h9; rw [gs_c _ _ _ _ (by decide)] at h8; exact h8
      have hm13 := hM p2.toInt.toNat (by omega)
      refine put_X2_8 (r := r9) (z := (g 46 (0 + p2.toInt.toNat))) hx hb hA hown hE hG hS hU t_p1 wd_3_39 (And.intro n_r9 t_r9).1 (And.intro n_r9 t_r9).2 dX5_swap_24 (fun H locs hG hS => ?_)
      refine lv_aload_n hx hb dX5_swap_27 rfl (lv_at hl 0 rfl) ?_
      refine get_X5_0 hx hb hA hown hE hG t_h0 wd_1_107 dX5_swap_28 (fun b14 (t_b14 : ty Γ b14 19) => ?_)
      refine lv_iload_n hx hb dX5_swap_31 rfl (lv_at hl 2 rfl) ?_
      refine ald_19 hx hb hE hG t_b14 (by omega) dX5_swap_32 (fun j16 r15 h17 n_r15 t_r15 => ?_)
      obtain rfl : j16 = p2.toInt.toNat := by omega
      clear h17
      replace n_r15 : r15 = none → g 46 (0 + p2.toInt.toNat) = -1 := fun h9 => by have h8 := n_r15 h9; rw [gs_c _ _ _ _ (by decide), gs_c _ _ _ _ (by decide)] at h8; exact h8
      replace t_r15 : ∀ b, r15 = some b → Γ b = (4, (g 46 (0 + p2.toInt.toNat)).toNat) ∧ 0 ≤ g 46 (0 + p2.toInt.toNat) := fun b h9 => by have h8 := t_r15 b h9; rw [gs_c _ _ _ _ (by decide), gs_c _ _ _ _ (by decide)] at h8; exact h8
      have hm19 := hM p2.toInt.toNat (by omega)
      refine lv_aload_n hx hb dX5_swap_33 rfl (lv_at hl 1 rfl) ?_
      refine get_X2_1 hx hb hA hown hE hG t_p1 wd_3_21 dX5_swap_34 (fun b20 t_b20 p_b20 => ?_)
      rw [gs_c _ _ _ _ (by decide), gs_c _ _ _ _ (by decide)] at t_b20 p_b20
      obtain ⟨b21, h22⟩ := Option.ne_none_iff_exists'.mp (fun h9 => absurd (n_r15 h9) (by omega))
      obtain ⟨t_b21, p_b21⟩ := t_r15 b21 h22
      clear t_r15 n_r15
      subst h22
      have hl : lv_has ls 3 [(0, .ref h0), (1, .ref p1), (2, .int p2)] := hl
      refine put_X2_9 (r := some b20) (z := (g 60 k)) hx hb hA hown hE hG hS hU t_b21 wd_3_42 (rq_z t_b20 p_b20).1 (rq_z t_b20 p_b20).2 dX5_swap_37 (fun H locs hG hS => ?_)
      generalize eg24 : (gs (gs (gs g 65 k x6.toInt) 67 k (g 46 (0 + p2.toInt.toNat))) 68 ((g 46 (0 + p2.toInt.toNat))).toNat (g 60 k)) = g23 at hG
      have hf25 : ∀ c j : Nat, c ≠ 65 → c ≠ 67 → c ≠ 68 → g23 c j = g c j := fun c j h65 h67 h68 => by rw [← eg24, gs_c _ _ _ _ h68, gs_c _ _ _ _ h67, gs_c _ _ _ _ h65]
      have v26 : g23 65 k = x6.toInt := by rw [← eg24, gs_c _ _ _ _ (by decide), gs_c _ _ _ _ (by decide), gs_self]
      have hw27 : g23 65 = (pz_up (g 65) k x6.toInt) := by rw [← eg24, gs_r _ _ _ (by decide), gs_r _ _ _ (by decide), pz_gs]
      have v28 : g23 67 k = (g 46 (0 + p2.toInt.toNat)) := by rw [← eg24, gs_c _ _ _ _ (by decide), gs_self]
      have hw29 : g23 67 = (pz_up (g 67) k (g 46 (0 + p2.toInt.toNat))) := by rw [← eg24, gs_r _ _ _ (by decide), pz_gs, gs_r _ _ _ (by decide)]
      have v30 : g23 68 ((g 46 (0 + p2.toInt.toNat))).toNat = (g 60 k) := by rw [← eg24, gs_self]
      have hw31 : g23 68 = (pz_up (g 68) ((g 46 (0 + p2.toInt.toNat))).toNat (g 60 k)) := by rw [← eg24, pz_gs, gs_r _ _ _ (by decide), gs_r _ _ _ (by decide)]
      exact W.vret hx hb hr (fun t ht hW => ⟨⟨g23, rfl, ⟨(fun c j h65 h67 h68 => by rw [hf25 c j h65 h67 h68]), (by rw [hw27] <;> exact pz_upc (by omega) (by omega)), (by rw [hw29] <;> exact pz_upc (by omega) (by omega)), (by rw [hw31] <;> exact pz_upc (by omega) (by omega))⟩, ok1 ht hG⟩, hS.F ht⟩) hS.2.2 dX5_swap_40

set_option maxHeartbeats 4000000 in
set_option maxRecDepth 100000 in
/-- WeekBank$RingSearch.swapBest:  -/
theorem k_X5_swapBest (l : Launch) (dC : Nat → ClassId) (dI : Nat → Nat → Nat) (dA : Nat → ClassId) (sz : Nat) (X : va_W) (Γ : ty_G) (hU : Un Γ) (g : gh) (h0 : Nat) (t_h0 : ty Γ h0 8) (p9 : Nat → Int) (hs : 0 ≤ g 7 0 ∧ g 7 0 ≤ 9) (hM : ∀ j : Nat, (j : Int) < g 7 0 → 0 ≤ g 46 (0 + j)) (hp1 : ∀ i, i < (g 7 0).toNat → (0 ≤ p9 i ↔ (g 8 0).toNat.testBit i = true)) (hp2 : g 8 0 ≠ 0 → wy_c p9 (g 8 0).toNat (g 7 0).toNat = g 86 (g 8 0).toNat) (hp5 : (g 8 0).toNat < 2 ^ (g 7 0).toNat) (hp6 : ∀ i, i < (g 7 0).toNat → -1 ≤ p9 i ∧ p9 i < ((g 7 0).toNat : Int)) (hp7 : ∀ i j, i < (g 7 0).toNat → j < (g 7 0).toNat → 0 ≤ p9 i → p9 i = p9 j → i = j) (hp8 : ∀ i j, i < (g 7 0).toNat → j < (g 7 0).toNat → (g 46 (0 + i)).toNat = (g 46 (0 + j)).toNat → i = j) (hb8 : 0 ≤ g 8 0 ∧ g 8 0 ≤ 511) (hw86 : 0 ≤ g 86 (g 8 0).toNat) : Met l yX5_swapBest (.code yX5_swapBest cX5_swapBest 3 (Option.some Jvm.ClassFile.FieldType.int) :: AL) ({ frames := 1, cells := 0, slots := 0, locals := 22 }) (PCx dC dI dA sz X Γ g [.ref h0]) (va_Qi (fun (r : Int32) (u : gh) => (∀ c j : Nat, c ≠ 65 → c ≠ 67 → c ≠ 68 → u c j = g c j) ∧ ((r.toInt = bcz (g 8 0).toNat)) ∧ (SW (fun i => (g 46 (0 + i)).toNat) p9 (g 60) (fun i => i < (g 7 0).toNat) (g 65) (g 67) (g 68) (u 65) (u 67) (u 68))) (okb dC dI dA sz X Γ) (ty_A sz)) 0 0 (ty_A sz) := by
  refine Met.ofW (cc := cX5_swapBest) (maxL := 3) (ret := (Option.some Jvm.ClassFile.FieldType.int)) (by decide) rfl ?_
  intro p e s m args below meth c s₁ B hml hv
  obtain ⟨rfl, hG, hE⟩ := hv
  have hx := B.exec
  have hb := B.bytes
  have hr := B.returns
  have hts := atoms_spec B.pre
  have hA : ∀ w ∈ AL, w.before _ s = true := fun w h => hts w (List.mem_cons_of_mem _ h)
  have hown : s.vm.findClass RX5 = some m.cls := findClass_of_methodNamed B.named
  have hlocks := B.notSynchronized
  have hS : va_S (ty_A sz) s.heap s.heap [] := va_S.rf
  have hl := lv_entry ([.ref h0]) (n := 3) (Nat.le_of_ble_eq_true rfl)
  rw [lg_entry_eq]
  generalize (lg_sl ([.ref h0]) ++ List.replicate (3 - (lg_sl ([.ref h0])).length) Slot.unset).toArray = ls at hl ⊢
  have hl : lv_has ls 3 [(0, .ref h0)] := hl
  refine lv_aload_n hx hb dX5_swapBest_0 rfl (lv_at hl 0 rfl) ?_
  refine get_X5_5 hx hb hA hown hE hG t_h0 wd_1_112 dX5_swapBest_1 (fun b1 (t_b1 : ty Γ b1 27) => ?_)
  refine lv_aload_n hx hb dX5_swapBest_4 rfl (lv_at hl 0 rfl) ?_
  refine get_X5_6 hx hb hA hown hE hG t_h0 wd_1_113 dX5_swapBest_5 (fun x2 h3 => ?_)
  refine ald_27 hx hb hE hG t_b1 (by omega) dX5_swapBest_8 (fun j6 x5 h7 h8 => ?_)
  obtain rfl : j6 = x2.toInt.toNat := by omega
  rw [show x2.toInt.toNat = ((g 8 0).toNat) by omega] at h8
  refine lv_istore_n (lv' := [(1, .int x5), (0, .ref h0)]) hx hb dX5_swapBest_9 rfl hl (by decide) rfl (fun ls hl => ?_)
  refine ty_bipush hx hb (8) dX5_swapBest_10 (by decide) (fun x9 h10 => ?_)
  refine lv_istore_n (lv' := [(2, .int x9), (1, .int x5), (0, .ref h0)]) hx hb dX5_swapBest_12 rfl hl (by decide) rfl (fun ls hl => ?_)
  have L_13 : ∀ (n : Nat) (v2_13 : Int32) (v1_13 : Int32) (g11 : gh) (H : Heap) (locs : List Loc) (ls : Array Slot), (v2_13.toInt + 1 : Int) < n → -1 ≤ v2_13.toInt ∧ v2_13.toInt ≤ 8 → 0 ≤ v1_13.toInt → (∀ c j : Nat, c ≠ 65 → c ≠ 67 → c ≠ 68 → g11 c j = g c j) → (v1_13.toInt = g 86 (g 8 0).toNat / 10 ^ (8 - v2_13.toInt).toNat) → (SW (fun i => (g 46 (0 + i)).toNat) p9 (g 60) (fun i => v2_13.toInt < (i : Int) ∧ i < (g 7 0).toNat) (g 65) (g 67) (g 68) (g11 65) (g11 67) (g11 68)) → ty_ok (dC, dI) vwCl Γ (TP dA Γ g11) sz X H → va_S (ty_A sz) s.heap H locs → lv_has ls 3 [(2, .int v2_13), (1, .int v1_13), (0, .ref h0)] → W p l e (headSpec (.code yX5_swapBest cX5_swapBest 3 (Option.some Jvm.ClassFile.FieldType.int) :: AL) ({ frames := 1, cells := 0, slots := 0, locals := 22 })).room s m ([.ref h0] : List Value).toArray below meth c H locs 0 0 (MQ below (va_Qi (fun (r : Int32) (u : gh) => (∀ c j : Nat, c ≠ 65 → c ≠ 67 → c ≠ 68 → u c j = g c j) ∧ ((r.toInt = bcz (g 8 0).toNat)) ∧ (SW (fun i => (g 46 (0 + i)).toNat) p9 (g 60) (fun i => i < (g 7 0).toNat) (g 65) (g 67) (g 68) (u 65) (u 67) (u 68))) (okb dC dI dA sz X Γ) (ty_A sz)) ([.ref h0] : List Value).toArray s 0 0 (ty_A sz)) (F0 m 13 ls []) := by
    intro n
    induction n with
    | zero => intro v2_13 v1_13 g11 H locs ls hm hi0 hi1 hf12 hq0 hq1 hG hS hl; exfalso; omega
    | succ n ih_13 =>
      intro v2_13 v1_13 g11 H locs ls hm hi0 hi1 hf12 hq0 hq1 hG hS hl
      refine lv_iload_n hx hb dX5_swapBest_13 rfl (lv_at hl 0 rfl) ?_
      refine ty_if_lt (tgt := 53) hx hb dX5_swapBest_14 (by decide) (fun c13 => ?_) (fun c13 => ?_)
      · skip
        refine lv_aload_n hx hb dX5_swapBest_53 rfl (lv_at hl 2 rfl) ?_
        refine get_X5_6 hx hb hA hown hE hG t_h0 wd_1_113 dX5_swapBest_54 (fun x14 h15 => ?_)
        have hk17 : g11 8 0 = g 8 0 := hf12 8 0 (by decide) (by decide) (by decide)
        refine cI (va_runS (As := [.int x14]) (rest := []) ⟨hx, hb, hml, hown, hA⟩ (k_bitCount l dC dI dA sz X Γ hU g11 x14   (by omega)) ⟨callB_of 1 hA (al_A wd_3_145) rfl rfl rfl (hA _ wd_1_17) (hA _ wd_3_143) (by decide +kernel) ⟨Nat.le_of_ble_eq_true rfl, Nat.le_of_ble_eq_true rfl⟩, hA _ wd_3_144⟩ ⟨bl, fun U hU9 hW9 => ⟨rfl, by rw [hU9]; exact hG, hE.go hS hU9 hW9⟩⟩ rfl rfl hl.1 rfl (lv_room (Nat.le_of_ble_eq_true rfl)) dX5_swapBest_57 ⟨Nat.zero_le _, Nat.zero_le _⟩) hS (fun x20 u18 H locs w19 hG hS => ?_)
        obtain ⟨eu21, w19⟩ := w19
        rw [eu21] at hG
        have hbr9 := bcz_rg x14.toInt.toNat (by omega)
        exact W.iret (v := x20) hx hb hr (fun t ht hW => ⟨⟨x20, g11, rfl, ⟨(fun c j h65 h67 h68 => by rw [hf12 c j h65 h67 h68]), (by rw [w19, show x14.toInt.toNat = (g 8 0).toNat by omega]), (SW_cg hq1 (fun i => by show i < (g 7 0).toNat ↔ (v2_13.toInt < (i : Int) ∧ i < (g 7 0).toNat); omega))⟩, ok1 ht hG⟩, hS.F ht⟩) hS.2.2 dX5_swapBest_60
      · skip
        refine lv_aload_n hx hb dX5_swapBest_17 rfl (lv_at hl 2 rfl) ?_
        refine get_X5_6 hx hb hA hown hE hG t_h0 wd_1_113 dX5_swapBest_18 (fun x22 h23 => ?_)
        have hk25 : g11 8 0 = g 8 0 := hf12 8 0 (by decide) (by decide) (by decide)
        refine lv_iload_n hx hb dX5_swapBest_21 rfl (lv_at hl 0 rfl) ?_
        refine cI (va_runS (As := [.int x22, .int v2_13]) (rest := []) ⟨hx, hb, hml, hown, hA⟩ (k_X5_has l dC dI dA sz X Γ hU g11 x22 v2_13   (by omega)) ⟨callB_of 2 hA (al_A wd_3_151) rfl rfl rfl (hA _ wd_1_5) (hA _ wd_3_149) (by decide +kernel) ⟨Nat.le_of_ble_eq_true rfl, Nat.le_of_ble_eq_true rfl⟩, hA _ wd_3_150⟩ ⟨bl, fun U hU9 hW9 => ⟨rfl, by rw [hU9]; exact hG, hE.go hS hU9 hW9⟩⟩ rfl rfl hl.1 rfl (lv_room (Nat.le_of_ble_eq_true rfl)) dX5_swapBest_22 ⟨Nat.zero_le _, Nat.zero_le _⟩) hS (fun x28 u26 H locs w27 hG hS => ?_)
        obtain ⟨eu29, w27⟩ := w27
        rw [eu29] at hG
        have htz9 := tbz_01 x22.toInt v2_13.toInt
        refine ty_if_eq (tgt := 42) hx hb dX5_swapBest_25 (by decide) (fun c30 => ?_) (fun c30 => ?_)
        · skip
          refine lv_iload_n hx hb dX5_swapBest_42 rfl (lv_at hl 1 rfl) ?_
          refine ty_bipush hx hb (10) dX5_swapBest_43 (by decide) (fun x31 h32 => ?_)
          refine lv_idiv hx hb dX5_swapBest_45 (fun h0 => by have := ty_c0.mp h0; omega) ?_
          refine lv_topi (fun x33 h34 => ?_)
          have hdv9 := div10 h34 (by omega) (by omega)
          refine lv_istore_n (lv' := [(1, .int x33), (2, .int v2_13), (0, .ref h0)]) hx hb dX5_swapBest_46 rfl hl (by decide) rfl (fun ls hl => ?_)
          obtain ⟨x35, h36⟩ : ∃ y : Int32, y = v2_13 + Int32.ofInt (-1) := ⟨_, rfl⟩
          try have h37 : x35.toInt = v2_13.toInt + (-1) := ty_inc h36 (by decide) (by omega) (by omega)
          refine lv_iinc (v := x35) (lv' := [(2, .int x35), (1, .int x33), (0, .ref h0)]) hx hb dX5_swapBest_47 hl (k := 1) rfl h36.symm (by decide) rfl (fun ls hl => ?_)
          refine lv_goto (tgt := 13) hx hb dX5_swapBest_50 (by decide) ?_
          exact ih_13 x35 x33 g11 _ _ ls (by omega) (by omega) (by omega) (fun c j h65 h67 h68 => by rw [hf12 c j h65 h67 h68]) (by rw [hdv9, hq0, dig_s, show (8 - x35.toInt).toNat = (8 - v2_13.toInt).toNat + 1 by omega]) (by by_cases hn9 : v2_13.toInt.toNat < (g 7 0).toNat; exact SW_no (k := v2_13.toInt.toNat) (P := fun i => v2_13.toInt < (i : Int) ∧ i < (g 7 0).toNat) hq1 (fun i => by show (x35.toInt < (i : Int) ∧ i < (g 7 0).toNat) ↔ (v2_13.toInt < (i : Int) ∧ i < (g 7 0).toNat) ∨ i = v2_13.toInt.toNat; omega) (Int.not_le.mp (fun q => by have h9 := (hp1 v2_13.toInt.toNat hn9).mp q; rw [hs0_ (z := g 8 0) (i := v2_13.toInt) (show tbz (g 8 0) v2_13.toInt = 0 by rw [show g 8 0 = x22.toInt by omega]; omega) rfl] at h9; cases h9)); exact SW_cg hq1 (fun i => by show (x35.toInt < (i : Int) ∧ i < (g 7 0).toNat) ↔ (v2_13.toInt < (i : Int) ∧ i < (g 7 0).toNat); omega)) hG hS (lv_sub hl [0, 1, 2] rfl)
        · skip
          refine lv_aload_n hx hb dX5_swapBest_28 rfl (lv_at hl 2 rfl) ?_
          refine lv_aload_n hx hb dX5_swapBest_29 rfl (lv_at hl 2 rfl) ?_
          refine get_X5_0 hx hb hA hown hE hG t_h0 wd_1_107 dX5_swapBest_30 (fun b38 (t_b38 : ty Γ b38 19) => ?_)
          have htb9 : (g 8 0).toNat.testBit v2_13.toInt.toNat = true := hs1_ (z := g 8 0) (i := v2_13.toInt) (show tbz (g 8 0) v2_13.toInt ≠ 0 by rw [show g 8 0 = x22.toInt by omega]; omega) rfl
          have hin9 : v2_13.toInt.toNat < (g 7 0).toNat := tb_hi hp5 htb9
          refine lv_iload_n hx hb dX5_swapBest_33 rfl (lv_at hl 0 rfl) ?_
          refine ald_19 hx hb hE hG t_b38 (by omega) dX5_swapBest_34 (fun j40 r39 h41 n_r39 t_r39 => ?_)
          obtain rfl : j40 = v2_13.toInt.toNat := by omega
          clear h41
          have hk43 : g11 46 (0 + v2_13.toInt.toNat) = g 46 (0 + v2_13.toInt.toNat) := hf12 46 (0 + v2_13.toInt.toNat) (by decide) (by decide) (by decide)
          have hm44 := hM v2_13.toInt.toNat (by omega)
          refine lv_iload_n hx hb dX5_swapBest_35 rfl (lv_at hl 1 rfl) ?_
          refine ty_bipush hx hb (10) dX5_swapBest_36 (by decide) (fun x45 h46 => ?_)
          refine lv_irem hx hb dX5_swapBest_38 (fun h0 => by have := ty_c0.mp h0; omega) ?_
          refine lv_topi (fun x47 h48 => ?_)
          have hdg9 := rem10 h48 (by omega) (by omega)
          have hpp9 : g 86 (g 8 0).toNat / 10 ^ (8 - v2_13.toInt.toNat) % 10 = p9 v2_13.toInt.toNat := dig_p (by omega) hp5 hp1 (fun i hi => (hp6 i hi).2) (hp2 (fun q => by rw [q] at htb9; exact absurd htb9 (by rw [show (0 : Int).toNat = 0 from rfl, Nat.zero_testBit]; decide))) hin9 htb9
          have hpg9 := (hp1 v2_13.toInt.toNat hin9).mpr htb9
          have hpl9 := (hp6 v2_13.toInt.toNat hin9).2
          have hMp9 := hM (p9 v2_13.toInt.toNat).toNat (by omega)
          have hwq9 := hq0
          rw [show (8 - v2_13.toInt).toNat = 8 - v2_13.toInt.toNat by omega] at hwq9
          have hdp9 : x47.toInt = p9 v2_13.toInt.toNat := by rw [hdg9, hwq9]; exact hpp9
          obtain ⟨b49, h50⟩ := Option.ne_none_iff_exists'.mp (fun h9 => absurd (n_r39 h9) (by omega))
          obtain ⟨t_b49, p_b49⟩ := t_r39 b49 h50
          clear t_r39 n_r39
          subst h50
          have hl : lv_has ls 3 [(2, .int v2_13), (1, .int v1_13), (0, .ref h0)] := hl
          have hk51 : g11 7 0 = g 7 0 := hf12 7 0 (by decide) (by decide) (by decide)
          refine cV (va_runV (C := RX5) (As := [.ref b49, .int x47]) (rest := []) ⟨hx, hb, hml, hown, hA⟩ (k_X5_swap l dC dI dA sz X Γ hU g11 h0 t_h0 b49 ((g11 46 (0 + v2_13.toInt.toNat))).toNat t_b49 x47   (by omega) (fun j hj => by rw [show g11 46 = g 46 from funext fun j => by rw [hf12 46 j (by decide) (by decide) (by decide)]]; exact hM j (by omega)) (by omega)) ⟨callB_of 2 hA (al_A wd_3_182) rfl rfl rfl (hA _ wd_1_5) (hA _ wd_3_179) (by decide +kernel) ⟨Nat.le_of_ble_eq_true rfl, Nat.le_of_ble_eq_true rfl⟩, hA _ wd_3_181, hA _ ws_27⟩ ⟨bl, recv_X5 hE hG t_h0, fun U hU9 hW9 => ⟨rfl, by rw [hU9]; exact hG, hE.go hS hU9 hW9⟩⟩ rfl rfl hl.1 rfl (lv_room (Nat.le_of_ble_eq_true rfl)) dX5_swapBest_39 ⟨Nat.zero_le _, Nat.zero_le _⟩) hS (fun u52 H locs w53 hG hS => ?_)
          obtain ⟨hf57, hq54, hq55, hq56⟩ := w53
          have hn58 : g11 60 ((g11 46 (0 + v2_13.toInt.toNat))).toNat = g 60 ((g11 46 (0 + v2_13.toInt.toNat))).toNat := by rw [hf12 60 ((g11 46 (0 + v2_13.toInt.toNat))).toNat (by decide) (by decide) (by decide)]
          try rw [hn58] at hq56
          refine lv_iload_n hx hb dX5_swapBest_42 rfl (lv_at hl 1 rfl) ?_
          refine ty_bipush hx hb (10) dX5_swapBest_43 (by decide) (fun x59 h60 => ?_)
          refine lv_idiv hx hb dX5_swapBest_45 (fun h0 => by have := ty_c0.mp h0; omega) ?_
          refine lv_topi (fun x61 h62 => ?_)
          have hdv9 := div10 h62 (by omega) (by omega)
          refine lv_istore_n (lv' := [(1, .int x61), (2, .int v2_13), (0, .ref h0)]) hx hb dX5_swapBest_46 rfl hl (by decide) rfl (fun ls hl => ?_)
          obtain ⟨x63, h64⟩ : ∃ y : Int32, y = v2_13 + Int32.ofInt (-1) := ⟨_, rfl⟩
          try have h65 : x63.toInt = v2_13.toInt + (-1) := ty_inc h64 (by decide) (by omega) (by omega)
          refine lv_iinc (v := x63) (lv' := [(2, .int x63), (1, .int x61), (0, .ref h0)]) hx hb dX5_swapBest_47 hl (k := 1) rfl h64.symm (by decide) rfl (fun ls hl => ?_)
          refine lv_goto (tgt := 13) hx hb dX5_swapBest_50 (by decide) ?_
          exact ih_13 x63 x61 u52 _ _ ls (by omega) (by omega) (by omega) (fun c j h65 h67 h68 => by rw [hf57 c j h65 h67 h68, hf12 c j h65 h67 h68]) (by rw [hdv9, hq0, dig_s, show (8 - x63.toInt).toNat = (8 - v2_13.toInt).toNat + 1 by omega]) (SW_up (k := v2_13.toInt.toNat) (P := fun i => v2_13.toInt < (i : Int) ∧ i < (g 7 0).toNat) hq1 (fun i => by show (x63.toInt < (i : Int) ∧ i < (g 7 0).toNat) ↔ (v2_13.toInt < (i : Int) ∧ i < (g 7 0).toNat) ∨ i = v2_13.toInt.toNat; omega) hpg9 (fun i hi h0 e => by have h9 := hp8 i v2_13.toInt.toNat hi.2 hin9 e; have h8 : v2_13.toInt < (i : Int) := hi.1; omega) (fun i hi h0 e => by have h7 := hp6 i hi.2; have h9 := hp8 (p9 i).toNat (p9 v2_13.toInt.toNat).toNat (by omega) (by omega) e; have h6 := hp7 i v2_13.toInt.toNat hi.2 hin9 h0 (by omega); have h8 : v2_13.toInt < (i : Int) := hi.1; omega) (by rw [hq54, show g11 46 = g 46 from funext fun j => by rw [hf12 46 j (by decide) (by decide) (by decide)]] <;> first | rfl | exact pz_upc rfl (by omega)) (by rw [hq55, show x47.toInt.toNat = (p9 v2_13.toInt.toNat).toNat by omega, show g11 46 = g 46 from funext fun j => by rw [hf12 46 j (by decide) (by decide) (by decide)]] <;> first | rfl | exact pz_upc rfl (by omega)) (by rw [hq56, show x47.toInt.toNat = (p9 v2_13.toInt.toNat).toNat by omega, show g11 46 = g 46 from funext fun j => by rw [hf12 46 j (by decide) (by decide) (by decide)]] <;> first | rfl | exact pz_upc rfl (by omega))) hG hS (lv_sub hl [0, 1, 2] rfl)
  exact L_13 ((x9.toInt + 1) + 1).toNat x9 x5 g _ _ ls (by omega) (by omega) (by omega) (fun c j _ _ _ => rfl) (by rw [show (8 - x9.toInt).toNat = 0 by omega]; show _ = g 86 (g 8 0).toNat / 1; omega) (SW_0 (fun i q => by have h9 : x9.toInt < (i : Int) ∧ i < (g 7 0).toNat := q; omega)) hG hS (lv_sub hl [0, 1, 2] rfl)
