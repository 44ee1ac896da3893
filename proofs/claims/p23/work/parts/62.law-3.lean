set_option maxHeartbeats 40000000 in
set_option maxRecDepth 100000 in
/-- the law's case 16 -/
theorem law_c16 {p : Program} {e : Env} {s : State} {m : MethodId} {below : List Frame} {meth : Method} {c : Code} (l : Launch) (hl9 : l.stackTraces = false) {b L : Nat} {xs : Nat → Int32} (hLN : L ≤ 3072) (hx : p.tables.exec = Jvm.exec) (hb : c.code = code) (hr : meth.sig.returnType = ret) (hml : c.maxLocals = 7) (hown : s.vm.findClass R_law = some m.cls) (hA : ∀ w ∈ AL, w.before #[Value.ref b] s = true) (hXs : va_X b L xs s s.heap) (hbl : b < s.heap.size) (hlocks : meth.locks = false) {dC : Nat → ClassId} {dI : Nat → Nat → Nat} {dA : Nat → ClassId} {sz : Nat} (hE : en dC dI dA sz s) (hsz : sz = s.heap.size) (hbA : ¬ ty_A sz b) (X : va_W) (q1 q13 q29 : Nat) (n : Nat) (ih : LJ p l e s m below meth c b dC dI dA sz X q1 q13 q29 n) (i : Int32) (Γ : ty_G) (g : gh) (kc ks : Nat) (H : Heap) (locs : List Loc) (ls : Array Slot) (fq : Nat → Int64) (hm : (3073 - i.toInt : Int) < (n + 1 : Nat)) (hi0 : 0 ≤ i.toInt ∧ i.toInt ≤ 3072) (hy4 : g 4 0 ≤ i.toInt) (hRL : RLA g) (hIJ : IJ g) (hBd : Bd Γ g) (hU : Un Γ) (t_q1 : ty Γ q1 1) (t_q13 : ty Γ q13 30) (hkc : kc ≤ 300 + i.toInt.toNat) (hks : ks ≤ 30000 + 28 * i.toInt.toNat) (hG : ty_ok (dC, dI) vwCl Γ (TP dA Γ g) sz ((q29, .inl (dA 3, 1, .inr (.inl fq))) :: X) H) (hS : va_S (ty_A sz) s.heap H locs) (hl : lv_has ls 7 [(4, .int i), (3, .ref q29), (2, .ref q13), (1, .ref q1), (0, .ref b)]) (hiL : i.toInt + 6 ≤ (L : Int)) : W p l e room_1 s m #[Value.ref b] below meth c H locs kc ks (lw_Z below #[Value.ref b] s) (F0 m 768 ls []) := by
  refine lv_aload_n hx hb dL_law_768 rfl (lv_at hl 3 rfl) ?_
  refine lv_aload_n hx hb dL_law_769 rfl (lv_at hl 4 rfl) ?_
  refine lv_iload hx hb dL_law_770 (lv_at hl 0 rfl) ?_
  refine ty_iconst hx hb (1) dL_law_772 (by decide) (fun x834 h835 => ?_)
  refine ty_iadd hx hb dL_law_773 (fun x836 h837 => ?_)
  have h838 := lw_ix (k := 1) h835 h837 hi0 hiL hLN (by decide)
  refine va_sld hx hb hXs hbl hbA hS (i := x836) (ty_ix h838.2) dL_law_774 ?_
  refine W.eq (g2 := F0 m 775 ls [.int (xs (i.toInt.toNat + 1)), .ref q1]) (by rw [lw_xs (xs := xs) h838.1 hi0.1]) ?_
  clear h838 h837 h835
  refine lv_topi (fun x839 s840 => ?_)
  refine cI (va_runV (C := RX8) (As := [.int x839]) (rest := []) ⟨hx, hb, hml, hown, hA⟩ (k_X8_weeks l dC dI dA sz ((q29, .inl (dA 3, 1, .inr (.inl fq))) :: X) Γ hU g q1 t_q1 x839   (RL_3 hRL) (RL_5 hRL)) ⟨callB_of 1 hA (al_A wd_3_220) rfl rfl rfl (hA _ wd_1_1) (hA _ wd_3_217) (by decide +kernel) ⟨Nat.le_of_ble_eq_true rfl, Nat.le_of_ble_eq_true rfl⟩, hA _ wd_3_218, hA _ wd_3_219⟩ ⟨bl, recv_X8 hE hG t_q1, fun U hU9 hW9 => ⟨rfl, by rw [hU9]; exact hG, hE.go hS hU9 hW9⟩⟩ rfl rfl hl.1 rfl (lv_room (Nat.le_of_ble_eq_true rfl)) dL_law_775 ⟨(Nat.le_trans (show kc + 0 ≤ 300000 by omega) (Nat.le_of_ble_eq_true rfl)), (Nat.le_trans (show ks + 0 ≤ 300000 by omega) (Nat.le_of_ble_eq_true rfl))⟩) hS (fun x843 u841 H locs w842 hG hS => ?_)
  obtain ⟨hf845, w842, hq844⟩ := w842
  replace w842 := HD.mk w842
  replace hq844 := HD.mk hq844
  have hw846 : ∀ c, c ∉ ([5, 65] : List Nat) → u841 c = g c := fun c hc => funext fun j => hf845 c j (fun q => hc (by rw [q]; decide)) (fun q => hc (by rw [q]; decide))
  have hb847 : Bd Γ u841 := Bd_e hBd (hw846 33 (by decide)) (hw846 34 (by decide)) (hw846 35 (by decide))
  have hj848 : IJ u841 := IJ_e hIJ (hw846 126 (by decide)) (hw846 132 (by decide)) (hw846 134 (by decide))
  refine lv_pop hx hb dL_law_778 rfl ?_
  refine lv_aload_n hx hb dL_law_779 rfl (lv_at hl 2 rfl) ?_
  refine lv_aload_n hx hb dL_law_780 rfl (lv_at hl 4 rfl) ?_
  refine lv_iload hx hb dL_law_781 (lv_at hl 0 rfl) ?_
  refine ty_iconst hx hb (1) dL_law_783 (by decide) (fun x849 h850 => ?_)
  refine ty_iadd hx hb dL_law_784 (fun x851 h852 => ?_)
  have h853 := lw_ix (k := 1) h850 h852 hi0 hiL hLN (by decide)
  refine va_sld hx hb hXs hbl hbA hS (i := x851) (ty_ix h853.2) dL_law_785 ?_
  refine W.eq (g2 := F0 m 786 ls [.int (xs (i.toInt.toNat + 1)), .ref q13]) (by rw [lw_xs (xs := xs) h853.1 hi0.1]) ?_
  clear h853 h852 h850
  refine W.eq (g2 := F0 m 786 ls [.int x839, .ref q13]) (by rw [s840]) ?_
  refine cI (va_runV (C := RX9) (As := [.int x839]) (rest := []) ⟨hx, hb, hml, hown, hA⟩ (k_X9_weeks l dC dI dA sz ((q29, .inl (dA 3, 1, .inr (.inl fq))) :: X) Γ hU u841 q13 t_q13 x839   (RM_126 hRL (hw846 126 (by decide))) (RM_112 hRL (hw846 112 (by decide))) (hj848)) ⟨callB_of 1 hA (al_A wd_5_197) rfl rfl rfl (hA _ wd_1_7) (hA _ wd_5_194) (by decide +kernel) ⟨Nat.le_of_ble_eq_true rfl, Nat.le_of_ble_eq_true rfl⟩, hA _ wd_5_195, hA _ wd_5_196⟩ ⟨bl, recv_X9 hE hG t_q13, fun U hU9 hW9 => ⟨rfl, by rw [hU9]; exact hG, hE.go hS hU9 hW9⟩⟩ rfl rfl hl.1 rfl (lv_room (Nat.le_of_ble_eq_true rfl)) dL_law_786 ⟨(Nat.le_trans (show kc + 0 ≤ 300000 by omega) (Nat.le_of_ble_eq_true rfl)), (Nat.le_trans (show ks + 0 ≤ 300000 by omega) (Nat.le_of_ble_eq_true rfl))⟩) hS (fun x856 u854 H locs w855 hG hS => ?_)
  obtain ⟨hf859, w855, hq857, hq858⟩ := w855
  replace w855 := HD.mk w855
  replace hq858 := HD.mk hq858
  have hw860 : ∀ c, c ∉ ([100, 112, 132] : List Nat) → u854 c = u841 c := fun c hc => funext fun j => hf859 c j (fun q => hc (by rw [q]; decide)) (fun q => hc (by rw [q]; decide)) (fun q => hc (by rw [q]; decide))
  have hst861 := st_weeks (g := g) (u1 := u841) (u2 := u854) (r1 := x843) (r2 := x856) hRL hw846 hw860 w842.v.1 w842.v.2 hq844.v w855.v.1 w855.v.2 hq858.v
  have hrr862 := hst861.2
  refine lv_pop hx hb dL_law_789 rfl ?_
  refine lv_goto (tgt := 1075) hx hb dL_law_790 (by decide) ?_
  obtain ⟨x863, h864⟩ : ∃ y : Int32, y = i + Int32.ofInt (6) := ⟨_, rfl⟩
  try have h865 : x863.toInt = i.toInt + (6) := ty_inc h864 (by decide) (by omega) (by omega)
  refine lv_iinc (v := x863) (lv' := [(4, .int x863), (3, .ref q29), (2, .ref q13), (1, .ref q1), (0, .ref b)]) hx hb dL_law_1075 hl (k := 0) rfl h864.symm (by decide) rfl (fun ls hl => ?_)
  refine lv_goto (tgt := 23) hx hb dL_law_1078 (by decide) ?_
  exact ih x863 Γ u854 (kc) (ks) _ _ ls fq (by omega) (by omega) (by have a9 := congrFun (hw860 4 (by decide)) 0; have b9 := congrFun (hw846 4 (by decide)) 0; omega) hst861.1 hq857 (Bd_e hb847 (hw860 33 (by decide)) (hw860 34 (by decide)) (hw860 35 (by decide))) hU t_q1 t_q13  (by omega) (by omega) hG hS (lv_sub hl [0, 1, 2, 3, 4] rfl)
set_option maxHeartbeats 40000000 in
set_option maxRecDepth 100000 in
/-- the law's case 17 -/
theorem law_c17 {p : Program} {e : Env} {s : State} {m : MethodId} {below : List Frame} {meth : Method} {c : Code} (l : Launch) (hl9 : l.stackTraces = false) {b L : Nat} {xs : Nat → Int32} (hLN : L ≤ 3072) (hx : p.tables.exec = Jvm.exec) (hb : c.code = code) (hr : meth.sig.returnType = ret) (hml : c.maxLocals = 7) (hown : s.vm.findClass R_law = some m.cls) (hA : ∀ w ∈ AL, w.before #[Value.ref b] s = true) (hXs : va_X b L xs s s.heap) (hbl : b < s.heap.size) (hlocks : meth.locks = false) {dC : Nat → ClassId} {dI : Nat → Nat → Nat} {dA : Nat → ClassId} {sz : Nat} (hE : en dC dI dA sz s) (hsz : sz = s.heap.size) (hbA : ¬ ty_A sz b) (X : va_W) (q1 q13 q29 : Nat) (n : Nat) (ih : LJ p l e s m below meth c b dC dI dA sz X q1 q13 q29 n) (i : Int32) (Γ : ty_G) (g : gh) (kc ks : Nat) (H : Heap) (locs : List Loc) (ls : Array Slot) (fq : Nat → Int64) (hm : (3073 - i.toInt : Int) < (n + 1 : Nat)) (hi0 : 0 ≤ i.toInt ∧ i.toInt ≤ 3072) (hy4 : g 4 0 ≤ i.toInt) (hRL : RLA g) (hIJ : IJ g) (hBd : Bd Γ g) (hU : Un Γ) (t_q1 : ty Γ q1 1) (t_q13 : ty Γ q13 30) (hkc : kc ≤ 300 + i.toInt.toNat) (hks : ks ≤ 30000 + 28 * i.toInt.toNat) (hG : ty_ok (dC, dI) vwCl Γ (TP dA Γ g) sz ((q29, .inl (dA 3, 1, .inr (.inl fq))) :: X) H) (hS : va_S (ty_A sz) s.heap H locs) (hl : lv_has ls 7 [(4, .int i), (3, .ref q29), (2, .ref q13), (1, .ref q1), (0, .ref b)]) (hiL : i.toInt + 6 ≤ (L : Int)) : W p l e room_1 s m #[Value.ref b] below meth c H locs kc ks (lw_Z below #[Value.ref b] s) (F0 m 793 ls []) := by
  refine lv_aload_n hx hb dL_law_793 rfl (lv_at hl 3 rfl) ?_
  refine cI (va_runV (C := RX8) (As := []) (rest := []) ⟨hx, hb, hml, hown, hA⟩ (k_X8_year l dC dI dA sz ((q29, .inl (dA 3, 1, .inr (.inl fq))) :: X) Γ hU g q1 t_q1   (RL_1 hRL) (RL_3 hRL) (RL_4 hRL hy4 hi0.2)) ⟨callB_of 0 hA (al_A wd_3_228) rfl rfl rfl (hA _ wd_1_1) (hA _ wd_3_225) (by decide +kernel) ⟨Nat.le_of_ble_eq_true rfl, Nat.le_of_ble_eq_true rfl⟩, hA _ wd_3_226, hA _ wd_3_227⟩ ⟨bl, recv_X8 hE hG t_q1, fun U hU9 hW9 => ⟨rfl, by rw [hU9]; exact hG, hE.go hS hU9 hW9⟩⟩ rfl rfl hl.1 rfl (lv_room (Nat.le_of_ble_eq_true rfl)) dL_law_794 ⟨(Nat.le_trans (show kc + 0 ≤ 300000 by omega) (Nat.le_of_ble_eq_true rfl)), (Nat.le_trans (show ks + 0 ≤ 300000 by omega) (Nat.le_of_ble_eq_true rfl))⟩) hS (fun x868 u866 H locs w867 hG hS => ?_)
  obtain ⟨hf872, w867, hq869, hq870, hq871⟩ := w867
  replace w867 := HD.mk w867
  replace hq869 := HD.mk hq869
  replace hq870 := HD.mk hq870
  replace hq871 := HD.mk hq871
  have hw873 : ∀ c, c ∉ ([4, 5, 44, 45, 65] : List Nat) → u866 c = g c := fun c hc => funext fun j => hf872 c j (fun q => hc (by rw [q]; decide)) (fun q => hc (by rw [q]; decide)) (fun q => hc (by rw [q]; decide)) (fun q => hc (by rw [q]; decide)) (fun q => hc (by rw [q]; decide))
  have hb874 : Bd Γ u866 := Bd_e hBd (hw873 33 (by decide)) (hw873 34 (by decide)) (hw873 35 (by decide))
  have hj875 : IJ u866 := IJ_e hIJ (hw873 126 (by decide)) (hw873 132 (by decide)) (hw873 134 (by decide))
  refine lv_pop hx hb dL_law_797 rfl ?_
  refine lv_aload_n hx hb dL_law_798 rfl (lv_at hl 2 rfl) ?_
  refine cI (va_runV (C := RX9) (As := []) (rest := []) ⟨hx, hb, hml, hown, hA⟩ (k_X9_year l dC dI dA sz ((q29, .inl (dA 3, 1, .inr (.inl fq))) :: X) Γ hU u866 q13 t_q13   (RM_126 hRL (hw873 126 (by decide))) (hj875) (RM_111 hRL hy4 hi0.2 (hw873 111 (by decide)))) ⟨callB_of 0 hA (al_A wd_5_205) rfl rfl rfl (hA _ wd_1_7) (hA _ wd_5_202) (by decide +kernel) ⟨Nat.le_of_ble_eq_true rfl, Nat.le_of_ble_eq_true rfl⟩, hA _ wd_5_203, hA _ wd_5_204⟩ ⟨bl, recv_X9 hE hG t_q13, fun U hU9 hW9 => ⟨rfl, by rw [hU9]; exact hG, hE.go hS hU9 hW9⟩⟩ rfl rfl hl.1 rfl (lv_room (Nat.le_of_ble_eq_true rfl)) dL_law_799 ⟨(Nat.le_trans (show kc + 0 ≤ 300000 by omega) (Nat.le_of_ble_eq_true rfl)), (Nat.le_trans (show ks + 0 ≤ 300000 by omega) (Nat.le_of_ble_eq_true rfl))⟩) hS (fun x878 u876 H locs w877 hG hS => ?_)
  obtain ⟨hf882, w877, hq879, hq880, hq881⟩ := w877
  replace w877 := HD.mk w877
  replace hq880 := HD.mk hq880
  replace hq881 := HD.mk hq881
  have hw883 : ∀ c, c ∉ ([100, 110, 111, 112, 132] : List Nat) → u876 c = u866 c := fun c hc => funext fun j => hf882 c j (fun q => hc (by rw [q]; decide)) (fun q => hc (by rw [q]; decide)) (fun q => hc (by rw [q]; decide)) (fun q => hc (by rw [q]; decide)) (fun q => hc (by rw [q]; decide))
  have hst884 := st_year (g := g) (u1 := u866) (u2 := u876) (r1 := x868) (r2 := x878) hRL hw873 hw883 w867.v.1 w867.v.2.1 w867.v.2.2 hq869.v hq870.v hq871.v w877.v.1 w877.v.2.1 w877.v.2.2 hq880.v hq881.v
  have hrr885 := hst884.2
  refine lv_pop hx hb dL_law_802 rfl ?_
  refine lv_goto (tgt := 1075) hx hb dL_law_803 (by decide) ?_
  obtain ⟨x886, h887⟩ : ∃ y : Int32, y = i + Int32.ofInt (6) := ⟨_, rfl⟩
  try have h888 : x886.toInt = i.toInt + (6) := ty_inc h887 (by decide) (by omega) (by omega)
  refine lv_iinc (v := x886) (lv' := [(4, .int x886), (3, .ref q29), (2, .ref q13), (1, .ref q1), (0, .ref b)]) hx hb dL_law_1075 hl (k := 0) rfl h887.symm (by decide) rfl (fun ls hl => ?_)
  refine lv_goto (tgt := 23) hx hb dL_law_1078 (by decide) ?_
  exact ih x886 Γ u876 (kc) (ks) _ _ ls fq (by omega) (by omega) (by have a9 := congrFun (hw883 4 (by decide)) 0; have b9 := w867.v.2.1; omega) hst884.1 hq879 (Bd_e hb874 (hw883 33 (by decide)) (hw883 34 (by decide)) (hw883 35 (by decide))) hU t_q1 t_q13  (by omega) (by omega) hG hS (lv_sub hl [0, 1, 2, 3, 4] rfl)
set_option maxHeartbeats 40000000 in
set_option maxRecDepth 100000 in
/-- the law's case 18 -/
theorem law_c18 {p : Program} {e : Env} {s : State} {m : MethodId} {below : List Frame} {meth : Method} {c : Code} (l : Launch) (hl9 : l.stackTraces = false) {b L : Nat} {xs : Nat → Int32} (hLN : L ≤ 3072) (hx : p.tables.exec = Jvm.exec) (hb : c.code = code) (hr : meth.sig.returnType = ret) (hml : c.maxLocals = 7) (hown : s.vm.findClass R_law = some m.cls) (hA : ∀ w ∈ AL, w.before #[Value.ref b] s = true) (hXs : va_X b L xs s s.heap) (hbl : b < s.heap.size) (hlocks : meth.locks = false) {dC : Nat → ClassId} {dI : Nat → Nat → Nat} {dA : Nat → ClassId} {sz : Nat} (hE : en dC dI dA sz s) (hsz : sz = s.heap.size) (hbA : ¬ ty_A sz b) (X : va_W) (q1 q13 q29 : Nat) (n : Nat) (ih : LJ p l e s m below meth c b dC dI dA sz X q1 q13 q29 n) (i : Int32) (Γ : ty_G) (g : gh) (kc ks : Nat) (H : Heap) (locs : List Loc) (ls : Array Slot) (fq : Nat → Int64) (hm : (3073 - i.toInt : Int) < (n + 1 : Nat)) (hi0 : 0 ≤ i.toInt ∧ i.toInt ≤ 3072) (hy4 : g 4 0 ≤ i.toInt) (hRL : RLA g) (hIJ : IJ g) (hBd : Bd Γ g) (hU : Un Γ) (t_q1 : ty Γ q1 1) (t_q13 : ty Γ q13 30) (hkc : kc ≤ 300 + i.toInt.toNat) (hks : ks ≤ 30000 + 28 * i.toInt.toNat) (hG : ty_ok (dC, dI) vwCl Γ (TP dA Γ g) sz ((q29, .inl (dA 3, 1, .inr (.inl fq))) :: X) H) (hS : va_S (ty_A sz) s.heap H locs) (hl : lv_has ls 7 [(4, .int i), (3, .ref q29), (2, .ref q13), (1, .ref q1), (0, .ref b)]) (hiL : i.toInt + 6 ≤ (L : Int)) : W p l e room_1 s m #[Value.ref b] below meth c H locs kc ks (lw_Z below #[Value.ref b] s) (F0 m 806 ls []) := by
  refine lv_aload_n hx hb dL_law_806 rfl (lv_at hl 3 rfl) ?_
  refine lv_aload_n hx hb dL_law_807 rfl (lv_at hl 4 rfl) ?_
  refine lv_iload hx hb dL_law_808 (lv_at hl 0 rfl) ?_
  refine ty_iconst hx hb (1) dL_law_810 (by decide) (fun x889 h890 => ?_)
  refine ty_iadd hx hb dL_law_811 (fun x891 h892 => ?_)
  have h893 := lw_ix (k := 1) h890 h892 hi0 hiL hLN (by decide)
  refine va_sld hx hb hXs hbl hbA hS (i := x891) (ty_ix h893.2) dL_law_812 ?_
  refine W.eq (g2 := F0 m 813 ls [.int (xs (i.toInt.toNat + 1)), .ref q1]) (by rw [lw_xs (xs := xs) h893.1 hi0.1]) ?_
  clear h893 h892 h890
  refine lv_topi (fun x894 s895 => ?_)
  refine lv_aload_n hx hb dL_law_813 rfl (lv_at hl 4 rfl) ?_
  refine lv_iload hx hb dL_law_814 (lv_at hl 0 rfl) ?_
  refine ty_iconst hx hb (2) dL_law_816 (by decide) (fun x896 h897 => ?_)
  refine ty_iadd hx hb dL_law_817 (fun x898 h899 => ?_)
  have h900 := lw_ix (k := 2) h897 h899 hi0 hiL hLN (by decide)
  refine va_sld hx hb hXs hbl hbA hS (i := x898) (ty_ix h900.2) dL_law_818 ?_
  refine W.eq (g2 := F0 m 819 ls [.int (xs (i.toInt.toNat + 2)), .int x894, .ref q1]) (by rw [lw_xs (xs := xs) h900.1 hi0.1]) ?_
  clear h900 h899 h897
  refine lv_topi (fun x901 s902 => ?_)
  refine lv_aload_n hx hb dL_law_819 rfl (lv_at hl 4 rfl) ?_
  refine lv_iload hx hb dL_law_820 (lv_at hl 0 rfl) ?_
  refine ty_iconst hx hb (3) dL_law_822 (by decide) (fun x903 h904 => ?_)
  refine ty_iadd hx hb dL_law_823 (fun x905 h906 => ?_)
  have h907 := lw_ix (k := 3) h904 h906 hi0 hiL hLN (by decide)
  refine va_sld hx hb hXs hbl hbA hS (i := x905) (ty_ix h907.2) dL_law_824 ?_
  refine W.eq (g2 := F0 m 825 ls [.int (xs (i.toInt.toNat + 3)), .int x901, .int x894, .ref q1]) (by rw [lw_xs (xs := xs) h907.1 hi0.1]) ?_
  clear h907 h906 h904
  refine lv_topi (fun x908 s909 => ?_)
  refine ty_if_eq (tgt := 832) hx hb dL_law_825 (by decide) (fun c910 => ?_) (fun c910 => ?_)
  · skip
    refine ty_iconst hx hb (0) dL_law_832 (by decide) (fun x911 h912 => ?_)
    refine cI (va_runV (C := RX8) (As := [.int x894, .int x901, .int x911]) (rest := []) ⟨hx, hb, hml, hown, hA⟩ (k_X8_dies l dC dI dA sz ((q29, .inl (dA 3, 1, .inr (.inl fq))) :: X) Γ hU g q1 t_q1 x894 x901 x911   (RL_1 hRL) (RL_2 hRL) (RL_3 hRL) (RL_ow hRL)) ⟨callB_of 3 hA (al_A wd_3_236) rfl rfl rfl (hA _ wd_1_1) (hA _ wd_3_233) (by decide +kernel) ⟨Nat.le_of_ble_eq_true rfl, Nat.le_of_ble_eq_true rfl⟩, hA _ wd_3_234, hA _ wd_3_235⟩ ⟨bl, recv_X8 hE hG t_q1, fun U hU9 hW9 => ⟨rfl, by rw [hU9]; exact hG, hE.go hS hU9 hW9⟩⟩ rfl rfl hl.1 rfl (lv_room (Nat.le_of_ble_eq_true rfl)) dL_law_833 ⟨(Nat.le_trans (show kc + 0 ≤ 300000 by omega) (Nat.le_of_ble_eq_true rfl)), (Nat.le_trans (show ks + 0 ≤ 300000 by omega) (Nat.le_of_ble_eq_true rfl))⟩) hS (fun x915 u913 H locs w914 hG hS => ?_)
    obtain ⟨hf918, hq916, hq917⟩ := w914
    replace hq916 := HD.mk hq916
    replace hq917 := HD.mk hq917
    have hw919 : ∀ c, c ∉ ([43, 51, 53, 54, 56, 65] : List Nat) → u913 c = g c := fun c hc => funext fun j => hf918 c j (fun q => hc (by rw [q]; decide)) (fun q => hc (by rw [q]; decide)) (fun q => hc (by rw [q]; decide)) (fun q => hc (by rw [q]; decide)) (fun q => hc (by rw [q]; decide)) (fun q => hc (by rw [q]; decide))
    have hb920 : Bd Γ u913 := Bd_e hBd (hw919 33 (by decide)) (hw919 34 (by decide)) (hw919 35 (by decide))
    have hj921 : IJ u913 := IJ_e hIJ (hw919 126 (by decide)) (hw919 132 (by decide)) (hw919 134 (by decide))
    refine lv_pop hx hb dL_law_836 rfl ?_
    refine lv_aload_n hx hb dL_law_837 rfl (lv_at hl 2 rfl) ?_
    refine lv_aload_n hx hb dL_law_838 rfl (lv_at hl 4 rfl) ?_
    refine lv_iload hx hb dL_law_839 (lv_at hl 0 rfl) ?_
    refine ty_iconst hx hb (1) dL_law_841 (by decide) (fun x922 h923 => ?_)
    refine ty_iadd hx hb dL_law_842 (fun x924 h925 => ?_)
    have h926 := lw_ix (k := 1) h923 h925 hi0 hiL hLN (by decide)
    refine va_sld hx hb hXs hbl hbA hS (i := x924) (ty_ix h926.2) dL_law_843 ?_
    refine W.eq (g2 := F0 m 844 ls [.int (xs (i.toInt.toNat + 1)), .ref q13]) (by rw [lw_xs (xs := xs) h926.1 hi0.1]) ?_
    clear h926 h925 h923
    refine W.eq (g2 := F0 m 844 ls [.int x894, .ref q13]) (by rw [s895]) ?_
    refine lv_aload_n hx hb dL_law_844 rfl (lv_at hl 4 rfl) ?_
    refine lv_iload hx hb dL_law_845 (lv_at hl 0 rfl) ?_
    refine ty_iconst hx hb (2) dL_law_847 (by decide) (fun x927 h928 => ?_)
    refine ty_iadd hx hb dL_law_848 (fun x929 h930 => ?_)
    have h931 := lw_ix (k := 2) h928 h930 hi0 hiL hLN (by decide)
    refine va_sld hx hb hXs hbl hbA hS (i := x929) (ty_ix h931.2) dL_law_849 ?_
    refine W.eq (g2 := F0 m 850 ls [.int (xs (i.toInt.toNat + 2)), .int x894, .ref q13]) (by rw [lw_xs (xs := xs) h931.1 hi0.1]) ?_
    clear h931 h930 h928
    refine W.eq (g2 := F0 m 850 ls [.int x901, .int x894, .ref q13]) (by rw [s902]) ?_
    refine lv_aload_n hx hb dL_law_850 rfl (lv_at hl 4 rfl) ?_
    refine lv_iload hx hb dL_law_851 (lv_at hl 0 rfl) ?_
    refine ty_iconst hx hb (3) dL_law_853 (by decide) (fun x932 h933 => ?_)
    refine ty_iadd hx hb dL_law_854 (fun x934 h935 => ?_)
    have h936 := lw_ix (k := 3) h933 h935 hi0 hiL hLN (by decide)
    refine va_sld hx hb hXs hbl hbA hS (i := x934) (ty_ix h936.2) dL_law_855 ?_
    refine W.eq (g2 := F0 m 856 ls [.int (xs (i.toInt.toNat + 3)), .int x901, .int x894, .ref q13]) (by rw [lw_xs (xs := xs) h936.1 hi0.1]) ?_
    clear h936 h935 h933
    refine W.eq (g2 := F0 m 856 ls [.int x908, .int x901, .int x894, .ref q13]) (by rw [s909]) ?_
    refine ty_if_eq (tgt := 863) hx hb dL_law_856 (by decide) (fun c937 => ?_) (fun c937 => ?_)
    · skip
      refine ty_iconst hx hb (0) dL_law_863 (by decide) (fun x938 h939 => ?_)
      have ha940 : x938 = x911 := ty_eq32.mpr (by omega)
      refine cI (va_runV (C := RX9) (As := [.int x894, .int x901, .int x938]) (rest := []) ⟨hx, hb, hml, hown, hA⟩ (k_X9_dies l dC dI dA sz ((q29, .inl (dA 3, 1, .inr (.inl fq))) :: X) Γ hU u913 q13 t_q13 x894 x901 x938   (RM_104 hRL (hw919 104 (by decide))) (RM_126 hRL (hw919 126 (by decide))) (RM_122 hRL (hw919 122 (by decide))) (hj921)) ⟨callB_of 3 hA (al_A wd_5_209) rfl rfl rfl (hA _ wd_1_7) (hA _ wd_5_206) (by decide +kernel) ⟨Nat.le_of_ble_eq_true rfl, Nat.le_of_ble_eq_true rfl⟩, hA _ wd_5_207, hA _ wd_5_208⟩ ⟨bl, recv_X9 hE hG t_q13, fun U hU9 hW9 => ⟨rfl, by rw [hU9]; exact hG, hE.go hS hU9 hW9⟩⟩ rfl rfl hl.1 rfl (lv_room (Nat.le_of_ble_eq_true rfl)) dL_law_864 ⟨(Nat.le_trans (show kc + 0 ≤ 300000 by omega) (Nat.le_of_ble_eq_true rfl)), (Nat.le_trans (show ks + 0 ≤ 300000 by omega) (Nat.le_of_ble_eq_true rfl))⟩) hS (fun x943 u941 H locs w942 hG hS => ?_)
      obtain ⟨hf946, hq944, hq945⟩ := w942
      try rw [ha940] at hq945
      replace hq945 := HD.mk hq945
      have hw947 : ∀ c, c ∉ ([100, 106, 108, 109, 132, 135] : List Nat) → u941 c = u913 c := fun c hc => funext fun j => hf946 c j (fun q => hc (by rw [q]; decide)) (fun q => hc (by rw [q]; decide)) (fun q => hc (by rw [q]; decide)) (fun q => hc (by rw [q]; decide)) (fun q => hc (by rw [q]; decide)) (fun q => hc (by rw [q]; decide))
      have hst948 := st_dies (g := g) (u1 := u913) (u2 := u941) (r1 := x915) (r2 := x943) hRL hw919 hw947 hq916.v hq917.v hq945.v
      have hrr949 := hst948.2
      refine lv_pop hx hb dL_law_867 rfl ?_
      refine lv_goto (tgt := 1075) hx hb dL_law_868 (by decide) ?_
      obtain ⟨x950, h951⟩ : ∃ y : Int32, y = i + Int32.ofInt (6) := ⟨_, rfl⟩
      try have h952 : x950.toInt = i.toInt + (6) := ty_inc h951 (by decide) (by omega) (by omega)
      refine lv_iinc (v := x950) (lv' := [(4, .int x950), (3, .ref q29), (2, .ref q13), (1, .ref q1), (0, .ref b)]) hx hb dL_law_1075 hl (k := 0) rfl h951.symm (by decide) rfl (fun ls hl => ?_)
      refine lv_goto (tgt := 23) hx hb dL_law_1078 (by decide) ?_
      exact ih x950 Γ u941 (kc) (ks) _ _ ls fq (by omega) (by omega) (by have a9 := congrFun (hw947 4 (by decide)) 0; have b9 := congrFun (hw919 4 (by decide)) 0; omega) hst948.1 hq944 (Bd_e hb920 (hw947 33 (by decide)) (hw947 34 (by decide)) (hw947 35 (by decide))) hU t_q1 t_q13  (by omega) (by omega) hG hS (lv_sub hl [0, 1, 2, 3, 4] rfl)
    · exfalso; omega
  · skip
    refine ty_iconst hx hb (1) dL_law_828 (by decide) (fun x953 h954 => ?_)
    refine lv_goto (tgt := 833) hx hb dL_law_829 (by decide) ?_
    refine cI (va_runV (C := RX8) (As := [.int x894, .int x901, .int x953]) (rest := []) ⟨hx, hb, hml, hown, hA⟩ (k_X8_dies l dC dI dA sz ((q29, .inl (dA 3, 1, .inr (.inl fq))) :: X) Γ hU g q1 t_q1 x894 x901 x953   (RL_1 hRL) (RL_2 hRL) (RL_3 hRL) (RL_ow hRL)) ⟨callB_of 3 hA (al_A wd_3_236) rfl rfl rfl (hA _ wd_1_1) (hA _ wd_3_233) (by decide +kernel) ⟨Nat.le_of_ble_eq_true rfl, Nat.le_of_ble_eq_true rfl⟩, hA _ wd_3_234, hA _ wd_3_235⟩ ⟨bl, recv_X8 hE hG t_q1, fun U hU9 hW9 => ⟨rfl, by rw [hU9]; exact hG, hE.go hS hU9 hW9⟩⟩ rfl rfl hl.1 rfl (lv_room (Nat.le_of_ble_eq_true rfl)) dL_law_833 ⟨(Nat.le_trans (show kc + 0 ≤ 300000 by omega) (Nat.le_of_ble_eq_true rfl)), (Nat.le_trans (show ks + 0 ≤ 300000 by omega) (Nat.le_of_ble_eq_true rfl))⟩) hS (fun x957 u955 H locs w956 hG hS => ?_)
    obtain ⟨hf960, hq958, hq959⟩ := w956
    replace hq958 := HD.mk hq958
    replace hq959 := HD.mk hq959
    have hw961 : ∀ c, c ∉ ([43, 51, 53, 54, 56, 65] : List Nat) → u955 c = g c := fun c hc => funext fun j => hf960 c j (fun q => hc (by rw [q]; decide)) (fun q => hc (by rw [q]; decide)) (fun q => hc (by rw [q]; decide)) (fun q => hc (by rw [q]; decide)) (fun q => hc (by rw [q]; decide)) (fun q => hc (by rw [q]; decide))
    have hb962 : Bd Γ u955 := Bd_e hBd (hw961 33 (by decide)) (hw961 34 (by decide)) (hw961 35 (by decide))
    have hj963 : IJ u955 := IJ_e hIJ (hw961 126 (by decide)) (hw961 132 (by decide)) (hw961 134 (by decide))
    refine lv_pop hx hb dL_law_836 rfl ?_
    refine lv_aload_n hx hb dL_law_837 rfl (lv_at hl 2 rfl) ?_
    refine lv_aload_n hx hb dL_law_838 rfl (lv_at hl 4 rfl) ?_
    refine lv_iload hx hb dL_law_839 (lv_at hl 0 rfl) ?_
    refine ty_iconst hx hb (1) dL_law_841 (by decide) (fun x964 h965 => ?_)
    refine ty_iadd hx hb dL_law_842 (fun x966 h967 => ?_)
    have h968 := lw_ix (k := 1) h965 h967 hi0 hiL hLN (by decide)
    refine va_sld hx hb hXs hbl hbA hS (i := x966) (ty_ix h968.2) dL_law_843 ?_
    refine W.eq (g2 := F0 m 844 ls [.int (xs (i.toInt.toNat + 1)), .ref q13]) (by rw [lw_xs (xs := xs) h968.1 hi0.1]) ?_
    clear h968 h967 h965
    refine W.eq (g2 := F0 m 844 ls [.int x894, .ref q13]) (by rw [s895]) ?_
    refine lv_aload_n hx hb dL_law_844 rfl (lv_at hl 4 rfl) ?_
    refine lv_iload hx hb dL_law_845 (lv_at hl 0 rfl) ?_
    refine ty_iconst hx hb (2) dL_law_847 (by decide) (fun x969 h970 => ?_)
    refine ty_iadd hx hb dL_law_848 (fun x971 h972 => ?_)
    have h973 := lw_ix (k := 2) h970 h972 hi0 hiL hLN (by decide)
    refine va_sld hx hb hXs hbl hbA hS (i := x971) (ty_ix h973.2) dL_law_849 ?_
    refine W.eq (g2 := F0 m 850 ls [.int (xs (i.toInt.toNat + 2)), .int x894, .ref q13]) (by rw [lw_xs (xs := xs) h973.1 hi0.1]) ?_
    clear h973 h972 h970
    refine W.eq (g2 := F0 m 850 ls [.int x901, .int x894, .ref q13]) (by rw [s902]) ?_
    refine lv_aload_n hx hb dL_law_850 rfl (lv_at hl 4 rfl) ?_
    refine lv_iload hx hb dL_law_851 (lv_at hl 0 rfl) ?_
    refine ty_iconst hx hb (3) dL_law_853 (by decide) (fun x974 h975 => ?_)
    refine ty_iadd hx hb dL_law_854 (fun x976 h977 => ?_)
    have h978 := lw_ix (k := 3) h975 h977 hi0 hiL hLN (by decide)
    refine va_sld hx hb hXs hbl hbA hS (i := x976) (ty_ix h978.2) dL_law_855 ?_
    refine W.eq (g2 := F0 m 856 ls [.int (xs (i.toInt.toNat + 3)), .int x901, .int x894, .ref q13]) (by rw [lw_xs (xs := xs) h978.1 hi0.1]) ?_
    clear h978 h977 h975
    refine W.eq (g2 := F0 m 856 ls [.int x908, .int x901, .int x894, .ref q13]) (by rw [s909]) ?_
    refine ty_if_eq (tgt := 863) hx hb dL_law_856 (by decide) (fun c979 => ?_) (fun c979 => ?_)
    · skip
      refine ty_iconst hx hb (0) dL_law_863 (by decide) (fun x980 h981 => ?_)
      exfalso; omega
    · skip
      refine ty_iconst hx hb (1) dL_law_859 (by decide) (fun x982 h983 => ?_)
      refine lv_goto (tgt := 864) hx hb dL_law_860 (by decide) ?_
      have ha984 : x982 = x953 := ty_eq32.mpr (by omega)
      refine cI (va_runV (C := RX9) (As := [.int x894, .int x901, .int x982]) (rest := []) ⟨hx, hb, hml, hown, hA⟩ (k_X9_dies l dC dI dA sz ((q29, .inl (dA 3, 1, .inr (.inl fq))) :: X) Γ hU u955 q13 t_q13 x894 x901 x982   (RM_104 hRL (hw961 104 (by decide))) (RM_126 hRL (hw961 126 (by decide))) (RM_122 hRL (hw961 122 (by decide))) (hj963)) ⟨callB_of 3 hA (al_A wd_5_209) rfl rfl rfl (hA _ wd_1_7) (hA _ wd_5_206) (by decide +kernel) ⟨Nat.le_of_ble_eq_true rfl, Nat.le_of_ble_eq_true rfl⟩, hA _ wd_5_207, hA _ wd_5_208⟩ ⟨bl, recv_X9 hE hG t_q13, fun U hU9 hW9 => ⟨rfl, by rw [hU9]; exact hG, hE.go hS hU9 hW9⟩⟩ rfl rfl hl.1 rfl (lv_room (Nat.le_of_ble_eq_true rfl)) dL_law_864 ⟨(Nat.le_trans (show kc + 0 ≤ 300000 by omega) (Nat.le_of_ble_eq_true rfl)), (Nat.le_trans (show ks + 0 ≤ 300000 by omega) (Nat.le_of_ble_eq_true rfl))⟩) hS (fun x987 u985 H locs w986 hG hS => ?_)
      obtain ⟨hf990, hq988, hq989⟩ := w986
      try rw [ha984] at hq989
      replace hq989 := HD.mk hq989
      have hw991 : ∀ c, c ∉ ([100, 106, 108, 109, 132, 135] : List Nat) → u985 c = u955 c := fun c hc => funext fun j => hf990 c j (fun q => hc (by rw [q]; decide)) (fun q => hc (by rw [q]; decide)) (fun q => hc (by rw [q]; decide)) (fun q => hc (by rw [q]; decide)) (fun q => hc (by rw [q]; decide)) (fun q => hc (by rw [q]; decide))
      have hst992 := st_dies (g := g) (u1 := u955) (u2 := u985) (r1 := x957) (r2 := x987) hRL hw961 hw991 hq958.v hq959.v hq989.v
      have hrr993 := hst992.2
      refine lv_pop hx hb dL_law_867 rfl ?_
      refine lv_goto (tgt := 1075) hx hb dL_law_868 (by decide) ?_
      obtain ⟨x994, h995⟩ : ∃ y : Int32, y = i + Int32.ofInt (6) := ⟨_, rfl⟩
      try have h996 : x994.toInt = i.toInt + (6) := ty_inc h995 (by decide) (by omega) (by omega)
      refine lv_iinc (v := x994) (lv' := [(4, .int x994), (3, .ref q29), (2, .ref q13), (1, .ref q1), (0, .ref b)]) hx hb dL_law_1075 hl (k := 0) rfl h995.symm (by decide) rfl (fun ls hl => ?_)
      refine lv_goto (tgt := 23) hx hb dL_law_1078 (by decide) ?_
      exact ih x994 Γ u985 (kc) (ks) _ _ ls fq (by omega) (by omega) (by have a9 := congrFun (hw991 4 (by decide)) 0; have b9 := congrFun (hw961 4 (by decide)) 0; omega) hst992.1 hq988 (Bd_e hb962 (hw991 33 (by decide)) (hw991 34 (by decide)) (hw991 35 (by decide))) hU t_q1 t_q13  (by omega) (by omega) hG hS (lv_sub hl [0, 1, 2, 3, 4] rfl)
set_option maxHeartbeats 40000000 in
set_option maxRecDepth 100000 in
/-- the law's case 19 -/
theorem law_c19 {p : Program} {e : Env} {s : State} {m : MethodId} {below : List Frame} {meth : Method} {c : Code} (l : Launch) (hl9 : l.stackTraces = false) {b L : Nat} {xs : Nat → Int32} (hLN : L ≤ 3072) (hx : p.tables.exec = Jvm.exec) (hb : c.code = code) (hr : meth.sig.returnType = ret) (hml : c.maxLocals = 7) (hown : s.vm.findClass R_law = some m.cls) (hA : ∀ w ∈ AL, w.before #[Value.ref b] s = true) (hXs : va_X b L xs s s.heap) (hbl : b < s.heap.size) (hlocks : meth.locks = false) {dC : Nat → ClassId} {dI : Nat → Nat → Nat} {dA : Nat → ClassId} {sz : Nat} (hE : en dC dI dA sz s) (hsz : sz = s.heap.size) (hbA : ¬ ty_A sz b) (X : va_W) (q1 q13 q29 : Nat) (n : Nat) (ih : LJ p l e s m below meth c b dC dI dA sz X q1 q13 q29 n) (i : Int32) (Γ : ty_G) (g : gh) (kc ks : Nat) (H : Heap) (locs : List Loc) (ls : Array Slot) (fq : Nat → Int64) (hm : (3073 - i.toInt : Int) < (n + 1 : Nat)) (hi0 : 0 ≤ i.toInt ∧ i.toInt ≤ 3072) (hy4 : g 4 0 ≤ i.toInt) (hRL : RLA g) (hIJ : IJ g) (hBd : Bd Γ g) (hU : Un Γ) (t_q1 : ty Γ q1 1) (t_q13 : ty Γ q13 30) (hkc : kc ≤ 300 + i.toInt.toNat) (hks : ks ≤ 30000 + 28 * i.toInt.toNat) (hG : ty_ok (dC, dI) vwCl Γ (TP dA Γ g) sz ((q29, .inl (dA 3, 1, .inr (.inl fq))) :: X) H) (hS : va_S (ty_A sz) s.heap H locs) (hl : lv_has ls 7 [(4, .int i), (3, .ref q29), (2, .ref q13), (1, .ref q1), (0, .ref b)]) (hiL : i.toInt + 6 ≤ (L : Int)) : W p l e room_1 s m #[Value.ref b] below meth c H locs kc ks (lw_Z below #[Value.ref b] s) (F0 m 871 ls []) := by
  refine lv_aload_n hx hb dL_law_871 rfl (lv_at hl 3 rfl) ?_
  refine lv_aload_n hx hb dL_law_872 rfl (lv_at hl 4 rfl) ?_
  refine lv_iload hx hb dL_law_873 (lv_at hl 0 rfl) ?_
  refine ty_iconst hx hb (1) dL_law_875 (by decide) (fun x997 h998 => ?_)
  refine ty_iadd hx hb dL_law_876 (fun x999 h1000 => ?_)
  have h1001 := lw_ix (k := 1) h998 h1000 hi0 hiL hLN (by decide)
  refine va_sld hx hb hXs hbl hbA hS (i := x999) (ty_ix h1001.2) dL_law_877 ?_
  refine W.eq (g2 := F0 m 878 ls [.int (xs (i.toInt.toNat + 1)), .ref q1]) (by rw [lw_xs (xs := xs) h1001.1 hi0.1]) ?_
  clear h1001 h1000 h998
  refine lv_topi (fun x1002 s1003 => ?_)
  refine lv_aload_n hx hb dL_law_878 rfl (lv_at hl 4 rfl) ?_
  refine lv_iload hx hb dL_law_879 (lv_at hl 0 rfl) ?_
  refine ty_iconst hx hb (2) dL_law_881 (by decide) (fun x1004 h1005 => ?_)
  refine ty_iadd hx hb dL_law_882 (fun x1006 h1007 => ?_)
  have h1008 := lw_ix (k := 2) h1005 h1007 hi0 hiL hLN (by decide)
  refine va_sld hx hb hXs hbl hbA hS (i := x1006) (ty_ix h1008.2) dL_law_883 ?_
  refine W.eq (g2 := F0 m 884 ls [.int (xs (i.toInt.toNat + 2)), .int x1002, .ref q1]) (by rw [lw_xs (xs := xs) h1008.1 hi0.1]) ?_
  clear h1008 h1007 h1005
  refine lv_topi (fun x1009 s1010 => ?_)
  refine cI (va_runV (C := RX8) (As := [.int x1002, .int x1009]) (rest := []) ⟨hx, hb, hml, hown, hA⟩ (k_X8_fees l dC dI dA sz ((q29, .inl (dA 3, 1, .inr (.inl fq))) :: X) Γ hU g q1 t_q1 x1002 x1009   (RL_2 hRL)) ⟨callB_of 2 hA (al_A wd_4_4) rfl rfl rfl (hA _ wd_1_1) (hA _ wd_4_1) (by decide +kernel) ⟨Nat.le_of_ble_eq_true rfl, Nat.le_of_ble_eq_true rfl⟩, hA _ wd_4_2, hA _ wd_4_3⟩ ⟨bl, recv_X8 hE hG t_q1, fun U hU9 hW9 => ⟨rfl, by rw [hU9]; exact hG, hE.go hS hU9 hW9⟩⟩ rfl rfl hl.1 rfl (lv_room (Nat.le_of_ble_eq_true rfl)) dL_law_884 ⟨(Nat.le_trans (show kc + 0 ≤ 300000 by omega) (Nat.le_of_ble_eq_true rfl)), (Nat.le_trans (show ks + 0 ≤ 300000 by omega) (Nat.le_of_ble_eq_true rfl))⟩) hS (fun x1013 u1011 H locs w1012 hG hS => ?_)
  have hf1014 := w1012
  have hw1015 : ∀ c, c ∉ ([30, 31, 32] : List Nat) → u1011 c = g c := fun c hc => funext fun j => hf1014 c j (fun q => hc (by rw [q]; decide)) (fun q => hc (by rw [q]; decide)) (fun q => hc (by rw [q]; decide))
  have hb1016 : Bd Γ u1011 := Bd_e hBd (hw1015 33 (by decide)) (hw1015 34 (by decide)) (hw1015 35 (by decide))
  have hj1017 : IJ u1011 := IJ_e hIJ (hw1015 126 (by decide)) (hw1015 132 (by decide)) (hw1015 134 (by decide))
  refine lv_pop hx hb dL_law_887 rfl ?_
  refine lv_aload_n hx hb dL_law_888 rfl (lv_at hl 2 rfl) ?_
  refine lv_aload_n hx hb dL_law_889 rfl (lv_at hl 4 rfl) ?_
  refine lv_iload hx hb dL_law_890 (lv_at hl 0 rfl) ?_
  refine ty_iconst hx hb (1) dL_law_892 (by decide) (fun x1018 h1019 => ?_)
  refine ty_iadd hx hb dL_law_893 (fun x1020 h1021 => ?_)
  have h1022 := lw_ix (k := 1) h1019 h1021 hi0 hiL hLN (by decide)
  refine va_sld hx hb hXs hbl hbA hS (i := x1020) (ty_ix h1022.2) dL_law_894 ?_
  refine W.eq (g2 := F0 m 895 ls [.int (xs (i.toInt.toNat + 1)), .ref q13]) (by rw [lw_xs (xs := xs) h1022.1 hi0.1]) ?_
  clear h1022 h1021 h1019
  refine W.eq (g2 := F0 m 895 ls [.int x1002, .ref q13]) (by rw [s1003]) ?_
  refine lv_aload_n hx hb dL_law_895 rfl (lv_at hl 4 rfl) ?_
  refine lv_iload hx hb dL_law_896 (lv_at hl 0 rfl) ?_
  refine ty_iconst hx hb (2) dL_law_898 (by decide) (fun x1023 h1024 => ?_)
  refine ty_iadd hx hb dL_law_899 (fun x1025 h1026 => ?_)
  have h1027 := lw_ix (k := 2) h1024 h1026 hi0 hiL hLN (by decide)
  refine va_sld hx hb hXs hbl hbA hS (i := x1025) (ty_ix h1027.2) dL_law_900 ?_
  refine W.eq (g2 := F0 m 901 ls [.int (xs (i.toInt.toNat + 2)), .int x1002, .ref q13]) (by rw [lw_xs (xs := xs) h1027.1 hi0.1]) ?_
  clear h1027 h1026 h1024
  refine W.eq (g2 := F0 m 901 ls [.int x1009, .int x1002, .ref q13]) (by rw [s1010]) ?_
  refine cI (va_runV (C := RX9) (As := [.int x1002, .int x1009]) (rest := []) ⟨hx, hb, hml, hown, hA⟩ (k_X9_fees l dC dI dA sz ((q29, .inl (dA 3, 1, .inr (.inl fq))) :: X) Γ hU u1011 q13 t_q13 x1002 x1009   (RM_104 hRL (hw1015 104 (by decide)))) ⟨callB_of 2 hA (al_A wd_5_217) rfl rfl rfl (hA _ wd_1_7) (hA _ wd_5_214) (by decide +kernel) ⟨Nat.le_of_ble_eq_true rfl, Nat.le_of_ble_eq_true rfl⟩, hA _ wd_5_215, hA _ wd_5_216⟩ ⟨bl, recv_X9 hE hG t_q13, fun U hU9 hW9 => ⟨rfl, by rw [hU9]; exact hG, hE.go hS hU9 hW9⟩⟩ rfl rfl hl.1 rfl (lv_room (Nat.le_of_ble_eq_true rfl)) dL_law_901 ⟨(Nat.le_trans (show kc + 0 ≤ 300000 by omega) (Nat.le_of_ble_eq_true rfl)), (Nat.le_trans (show ks + 0 ≤ 300000 by omega) (Nat.le_of_ble_eq_true rfl))⟩) hS (fun x1030 u1028 H locs w1029 hG hS => ?_)
  have hf1031 := w1029
  have hw1032 : ∀ c, c ∉ ([100, 146] : List Nat) → u1028 c = u1011 c := fun c hc => funext fun j => hf1031 c j (fun q => hc (by rw [q]; decide)) (fun q => hc (by rw [q]; decide))
  have hst1033 := st_fees (p1 := x1002) (p2 := x1009) (r1 := x1013) (r2 := x1030) (g := g) (u1 := u1011) (u2 := u1028) hRL hw1015 hw1032
  refine lv_pop hx hb dL_law_904 rfl ?_
  refine lv_goto (tgt := 1075) hx hb dL_law_905 (by decide) ?_
  obtain ⟨x1034, h1035⟩ : ∃ y : Int32, y = i + Int32.ofInt (6) := ⟨_, rfl⟩
  try have h1036 : x1034.toInt = i.toInt + (6) := ty_inc h1035 (by decide) (by omega) (by omega)
  refine lv_iinc (v := x1034) (lv' := [(4, .int x1034), (3, .ref q29), (2, .ref q13), (1, .ref q1), (0, .ref b)]) hx hb dL_law_1075 hl (k := 0) rfl h1035.symm (by decide) rfl (fun ls hl => ?_)
  refine lv_goto (tgt := 23) hx hb dL_law_1078 (by decide) ?_
  exact ih x1034 Γ u1028 (kc) (ks) _ _ ls fq (by omega) (by omega) (by have a9 := congrFun (hw1032 4 (by decide)) 0; have b9 := congrFun (hw1015 4 (by decide)) 0; omega) hst1033 (IJ_e hj1017 (hw1032 126 (by decide)) (hw1032 132 (by decide)) (hw1032 134 (by decide))) (Bd_e hb1016 (hw1032 33 (by decide)) (hw1032 34 (by decide)) (hw1032 35 (by decide))) hU t_q1 t_q13  (by omega) (by omega) hG hS (lv_sub hl [0, 1, 2, 3, 4] rfl)
set_option maxHeartbeats 40000000 in
set_option maxRecDepth 100000 in
/-- the law's case 20 -/
theorem law_c20 {p : Program} {e : Env} {s : State} {m : MethodId} {below : List Frame} {meth : Method} {c : Code} (l : Launch) (hl9 : l.stackTraces = false) {b L : Nat} {xs : Nat → Int32} (hLN : L ≤ 3072) (hx : p.tables.exec = Jvm.exec) (hb : c.code = code) (hr : meth.sig.returnType = ret) (hml : c.maxLocals = 7) (hown : s.vm.findClass R_law = some m.cls) (hA : ∀ w ∈ AL, w.before #[Value.ref b] s = true) (hXs : va_X b L xs s s.heap) (hbl : b < s.heap.size) (hlocks : meth.locks = false) {dC : Nat → ClassId} {dI : Nat → Nat → Nat} {dA : Nat → ClassId} {sz : Nat} (hE : en dC dI dA sz s) (hsz : sz = s.heap.size) (hbA : ¬ ty_A sz b) (X : va_W) (q1 q13 q29 : Nat) (n : Nat) (ih : LJ p l e s m below meth c b dC dI dA sz X q1 q13 q29 n) (i : Int32) (Γ : ty_G) (g : gh) (kc ks : Nat) (H : Heap) (locs : List Loc) (ls : Array Slot) (fq : Nat → Int64) (hm : (3073 - i.toInt : Int) < (n + 1 : Nat)) (hi0 : 0 ≤ i.toInt ∧ i.toInt ≤ 3072) (hy4 : g 4 0 ≤ i.toInt) (hRL : RLA g) (hIJ : IJ g) (hBd : Bd Γ g) (hU : Un Γ) (t_q1 : ty Γ q1 1) (t_q13 : ty Γ q13 30) (hkc : kc ≤ 300 + i.toInt.toNat) (hks : ks ≤ 30000 + 28 * i.toInt.toNat) (hG : ty_ok (dC, dI) vwCl Γ (TP dA Γ g) sz ((q29, .inl (dA 3, 1, .inr (.inl fq))) :: X) H) (hS : va_S (ty_A sz) s.heap H locs) (hl : lv_has ls 7 [(4, .int i), (3, .ref q29), (2, .ref q13), (1, .ref q1), (0, .ref b)]) (hiL : i.toInt + 6 ≤ (L : Int)) : W p l e room_1 s m #[Value.ref b] below meth c H locs kc ks (lw_Z below #[Value.ref b] s) (F0 m 908 ls []) := by
  refine lv_aload_n hx hb dL_law_908 rfl (lv_at hl 3 rfl) ?_
  refine lv_aload_n hx hb dL_law_909 rfl (lv_at hl 4 rfl) ?_
  refine lv_iload hx hb dL_law_910 (lv_at hl 0 rfl) ?_
  refine ty_iconst hx hb (1) dL_law_912 (by decide) (fun x1037 h1038 => ?_)
  refine ty_iadd hx hb dL_law_913 (fun x1039 h1040 => ?_)
  have h1041 := lw_ix (k := 1) h1038 h1040 hi0 hiL hLN (by decide)
  refine va_sld hx hb hXs hbl hbA hS (i := x1039) (ty_ix h1041.2) dL_law_914 ?_
  refine W.eq (g2 := F0 m 915 ls [.int (xs (i.toInt.toNat + 1)), .ref q1]) (by rw [lw_xs (xs := xs) h1041.1 hi0.1]) ?_
  clear h1041 h1040 h1038
  refine lv_topi (fun x1042 s1043 => ?_)
  refine lv_aload_n hx hb dL_law_915 rfl (lv_at hl 4 rfl) ?_
  refine lv_iload hx hb dL_law_916 (lv_at hl 0 rfl) ?_
  refine ty_iconst hx hb (2) dL_law_918 (by decide) (fun x1044 h1045 => ?_)
  refine ty_iadd hx hb dL_law_919 (fun x1046 h1047 => ?_)
  have h1048 := lw_ix (k := 2) h1045 h1047 hi0 hiL hLN (by decide)
  refine va_sld hx hb hXs hbl hbA hS (i := x1046) (ty_ix h1048.2) dL_law_920 ?_
  refine W.eq (g2 := F0 m 921 ls [.int (xs (i.toInt.toNat + 2)), .int x1042, .ref q1]) (by rw [lw_xs (xs := xs) h1048.1 hi0.1]) ?_
  clear h1048 h1047 h1045
  refine lv_topi (fun x1049 s1050 => ?_)
  refine cI (va_runV (C := RX8) (As := [.int x1042, .int x1049]) (rest := []) ⟨hx, hb, hml, hown, hA⟩ (k_X8_party l dC dI dA sz ((q29, .inl (dA 3, 1, .inr (.inl fq))) :: X) Γ hU g q1 t_q1 x1042 x1049   (RL_1 hRL)) ⟨callB_of 2 hA (al_A wd_4_33) rfl rfl rfl (hA _ wd_1_1) (hA _ wd_4_30) (by decide +kernel) ⟨Nat.le_of_ble_eq_true rfl, Nat.le_of_ble_eq_true rfl⟩, hA _ wd_4_31, hA _ wd_4_32⟩ ⟨bl, recv_X8 hE hG t_q1, fun U hU9 hW9 => ⟨rfl, by rw [hU9]; exact hG, hE.go hS hU9 hW9⟩⟩ rfl rfl hl.1 rfl (lv_room (Nat.le_of_ble_eq_true rfl)) dL_law_921 ⟨(Nat.le_trans (show kc + 0 ≤ 300000 by omega) (Nat.le_of_ble_eq_true rfl)), (Nat.le_trans (show ks + 0 ≤ 300000 by omega) (Nat.le_of_ble_eq_true rfl))⟩) hS (fun x1053 u1051 H locs w1052 hG hS => ?_)
  obtain ⟨eu1054, w1052⟩ := w1052
  rw [eu1054] at hG
  replace w1052 := HD.mk w1052
  refine lv_pop hx hb dL_law_924 rfl ?_
  refine lv_aload_n hx hb dL_law_925 rfl (lv_at hl 2 rfl) ?_
  refine lv_aload_n hx hb dL_law_926 rfl (lv_at hl 4 rfl) ?_
  refine lv_iload hx hb dL_law_927 (lv_at hl 0 rfl) ?_
  refine ty_iconst hx hb (1) dL_law_929 (by decide) (fun x1055 h1056 => ?_)
  refine ty_iadd hx hb dL_law_930 (fun x1057 h1058 => ?_)
  have h1059 := lw_ix (k := 1) h1056 h1058 hi0 hiL hLN (by decide)
  refine va_sld hx hb hXs hbl hbA hS (i := x1057) (ty_ix h1059.2) dL_law_931 ?_
  refine W.eq (g2 := F0 m 932 ls [.int (xs (i.toInt.toNat + 1)), .ref q13]) (by rw [lw_xs (xs := xs) h1059.1 hi0.1]) ?_
  clear h1059 h1058 h1056
  refine W.eq (g2 := F0 m 932 ls [.int x1042, .ref q13]) (by rw [s1043]) ?_
  refine lv_aload_n hx hb dL_law_932 rfl (lv_at hl 4 rfl) ?_
  refine lv_iload hx hb dL_law_933 (lv_at hl 0 rfl) ?_
  refine ty_iconst hx hb (2) dL_law_935 (by decide) (fun x1060 h1061 => ?_)
  refine ty_iadd hx hb dL_law_936 (fun x1062 h1063 => ?_)
  have h1064 := lw_ix (k := 2) h1061 h1063 hi0 hiL hLN (by decide)
  refine va_sld hx hb hXs hbl hbA hS (i := x1062) (ty_ix h1064.2) dL_law_937 ?_
  refine W.eq (g2 := F0 m 938 ls [.int (xs (i.toInt.toNat + 2)), .int x1042, .ref q13]) (by rw [lw_xs (xs := xs) h1064.1 hi0.1]) ?_
  clear h1064 h1063 h1061
  refine W.eq (g2 := F0 m 938 ls [.int x1049, .int x1042, .ref q13]) (by rw [s1050]) ?_
  refine cI (va_runV (C := RX9) (As := [.int x1042, .int x1049]) (rest := []) ⟨hx, hb, hml, hown, hA⟩ (k_X9_party l dC dI dA sz ((q29, .inl (dA 3, 1, .inr (.inl fq))) :: X) Γ hU g q13 t_q13 x1042 x1049   (RM_101 hRL rfl) (RM_126 hRL rfl)) ⟨callB_of 2 hA (al_A wd_5_230) rfl rfl rfl (hA _ wd_1_7) (hA _ wd_5_227) (by decide +kernel) ⟨Nat.le_of_ble_eq_true rfl, Nat.le_of_ble_eq_true rfl⟩, hA _ wd_5_228, hA _ wd_5_229⟩ ⟨bl, recv_X9 hE hG t_q13, fun U hU9 hW9 => ⟨rfl, by rw [hU9]; exact hG, hE.go hS hU9 hW9⟩⟩ rfl rfl hl.1 rfl (lv_room (Nat.le_of_ble_eq_true rfl)) dL_law_938 ⟨(Nat.le_trans (show kc + 0 ≤ 300000 by omega) (Nat.le_of_ble_eq_true rfl)), (Nat.le_trans (show ks + 0 ≤ 300000 by omega) (Nat.le_of_ble_eq_true rfl))⟩) hS (fun x1067 u1065 H locs w1066 hG hS => ?_)
  obtain ⟨hf1068, w1066⟩ := w1066
  replace w1066 := HD.mk w1066
  have hw1069 : ∀ c, c ∉ ([100] : List Nat) → u1065 c = g c := fun c hc => funext fun j => hf1068 c j (fun q => hc (by rw [q]; decide))
  have hst1070 := st_party (g := g) (u1 := g) (u2 := u1065) (r1 := x1053) (r2 := x1067) hRL (fun _ _ => rfl) hw1069 w1052.v w1066.v
  have hrr1071 := hst1070.2
  refine lv_pop hx hb dL_law_941 rfl ?_
  refine lv_goto (tgt := 1075) hx hb dL_law_942 (by decide) ?_
  obtain ⟨x1072, h1073⟩ : ∃ y : Int32, y = i + Int32.ofInt (6) := ⟨_, rfl⟩
  try have h1074 : x1072.toInt = i.toInt + (6) := ty_inc h1073 (by decide) (by omega) (by omega)
  refine lv_iinc (v := x1072) (lv' := [(4, .int x1072), (3, .ref q29), (2, .ref q13), (1, .ref q1), (0, .ref b)]) hx hb dL_law_1075 hl (k := 0) rfl h1073.symm (by decide) rfl (fun ls hl => ?_)
  refine lv_goto (tgt := 23) hx hb dL_law_1078 (by decide) ?_
  exact ih x1072 Γ u1065 (kc) (ks) _ _ ls fq (by omega) (by omega) (by have a9 := congrFun (hw1069 4 (by decide)) 0; have b9 := True.intro; omega) hst1070.1 (IJ_e hIJ (hw1069 126 (by decide)) (hw1069 132 (by decide)) (hw1069 134 (by decide))) (Bd_e hBd (hw1069 33 (by decide)) (hw1069 34 (by decide)) (hw1069 35 (by decide))) hU t_q1 t_q13  (by omega) (by omega) hG hS (lv_sub hl [0, 1, 2, 3, 4] rfl)
set_option maxHeartbeats 40000000 in
set_option maxRecDepth 100000 in
/-- the law's case 21 -/
theorem law_c21 {p : Program} {e : Env} {s : State} {m : MethodId} {below : List Frame} {meth : Method} {c : Code} (l : Launch) (hl9 : l.stackTraces = false) {b L : Nat} {xs : Nat → Int32} (hLN : L ≤ 3072) (hx : p.tables.exec = Jvm.exec) (hb : c.code = code) (hr : meth.sig.returnType = ret) (hml : c.maxLocals = 7) (hown : s.vm.findClass R_law = some m.cls) (hA : ∀ w ∈ AL, w.before #[Value.ref b] s = true) (hXs : va_X b L xs s s.heap) (hbl : b < s.heap.size) (hlocks : meth.locks = false) {dC : Nat → ClassId} {dI : Nat → Nat → Nat} {dA : Nat → ClassId} {sz : Nat} (hE : en dC dI dA sz s) (hsz : sz = s.heap.size) (hbA : ¬ ty_A sz b) (X : va_W) (q1 q13 q29 : Nat) (n : Nat) (ih : LJ p l e s m below meth c b dC dI dA sz X q1 q13 q29 n) (i : Int32) (Γ : ty_G) (g : gh) (kc ks : Nat) (H : Heap) (locs : List Loc) (ls : Array Slot) (fq : Nat → Int64) (hm : (3073 - i.toInt : Int) < (n + 1 : Nat)) (hi0 : 0 ≤ i.toInt ∧ i.toInt ≤ 3072) (hy4 : g 4 0 ≤ i.toInt) (hRL : RLA g) (hIJ : IJ g) (hBd : Bd Γ g) (hU : Un Γ) (t_q1 : ty Γ q1 1) (t_q13 : ty Γ q13 30) (hkc : kc ≤ 300 + i.toInt.toNat) (hks : ks ≤ 30000 + 28 * i.toInt.toNat) (hG : ty_ok (dC, dI) vwCl Γ (TP dA Γ g) sz ((q29, .inl (dA 3, 1, .inr (.inl fq))) :: X) H) (hS : va_S (ty_A sz) s.heap H locs) (hl : lv_has ls 7 [(4, .int i), (3, .ref q29), (2, .ref q13), (1, .ref q1), (0, .ref b)]) (hiL : i.toInt + 6 ≤ (L : Int)) : W p l e room_1 s m #[Value.ref b] below meth c H locs kc ks (lw_Z below #[Value.ref b] s) (F0 m 945 ls []) := by
  refine lv_aload_n hx hb dL_law_945 rfl (lv_at hl 3 rfl) ?_
  refine lv_aload_n hx hb dL_law_946 rfl (lv_at hl 4 rfl) ?_
  refine lv_iload hx hb dL_law_947 (lv_at hl 0 rfl) ?_
  refine ty_iconst hx hb (1) dL_law_949 (by decide) (fun x1075 h1076 => ?_)
  refine ty_iadd hx hb dL_law_950 (fun x1077 h1078 => ?_)
  have h1079 := lw_ix (k := 1) h1076 h1078 hi0 hiL hLN (by decide)
  refine va_sld hx hb hXs hbl hbA hS (i := x1077) (ty_ix h1079.2) dL_law_951 ?_
  refine W.eq (g2 := F0 m 952 ls [.int (xs (i.toInt.toNat + 1)), .ref q1]) (by rw [lw_xs (xs := xs) h1079.1 hi0.1]) ?_
  clear h1079 h1078 h1076
  refine lv_topi (fun x1080 s1081 => ?_)
  refine lv_aload_n hx hb dL_law_952 rfl (lv_at hl 4 rfl) ?_
  refine lv_iload hx hb dL_law_953 (lv_at hl 0 rfl) ?_
  refine ty_iconst hx hb (2) dL_law_955 (by decide) (fun x1082 h1083 => ?_)
  refine ty_iadd hx hb dL_law_956 (fun x1084 h1085 => ?_)
  have h1086 := lw_ix (k := 2) h1083 h1085 hi0 hiL hLN (by decide)
  refine va_sld hx hb hXs hbl hbA hS (i := x1084) (ty_ix h1086.2) dL_law_957 ?_
  refine W.eq (g2 := F0 m 958 ls [.int (xs (i.toInt.toNat + 2)), .int x1080, .ref q1]) (by rw [lw_xs (xs := xs) h1086.1 hi0.1]) ?_
  clear h1086 h1085 h1083
  refine lv_topi (fun x1087 s1088 => ?_)
  refine lv_aload_n hx hb dL_law_958 rfl (lv_at hl 1 rfl) ?_
  refine vx_calli (vx_runSX (As := [.ref q1, .int x1080, .int x1087, .ref q29]) (rest := []) ⟨hx, hb, hml, hown, hA⟩ (k_L_of l hl9 dC dI dA sz X Γ hU g q1 t_q1 x1080 x1087 q29 fq (RL_3 hRL)) (vx_cwSW 4 hA (al_s4 (al wt_4_52 rfl) wd_4_50 wd_4_51 wd_1_0) rfl rfl rfl (by decide +kernel) ⟨Nat.le_of_ble_eq_true rfl, Nat.le_of_ble_eq_true rfl⟩) ⟨bl, fun U hU9 hW9 => ⟨rfl, by rw [hU9]; exact hG, hE.go hS hU9 hW9⟩⟩ rfl rfl hl.1 rfl (lv_room (Nat.le_of_ble_eq_true rfl)) dL_law_959 ⟨(Nat.le_trans (show kc + 1 ≤ 300000 by omega) (Nat.le_of_ble_eq_true rfl)), (Nat.le_trans (show ks + 6 ≤ 300000 by omega) (Nat.le_of_ble_eq_true rfl))⟩) hS (fun _ _ h => h) (fun _ h => h) (fun _ _ h => h) (fun E ce q9 u t H1 locs1 ht _ hp hB _ _ hS hce hcv hcl => hp.elim) (fun x1089 f1090 t9 H locs ht9 _ w1091 hB _ _ hS => ?_)
  have hG : ty_ok (dC, dI) vwCl Γ (TP dA Γ g) sz ((q29, .inl (dA 3, 1, .inr (.inl f1090))) :: X) H := by rw [← ht9]; exact hB
  clear hB
  replace w1091 := HD.mk w1091
  refine lv_istore (lv' := [(5, .int x1089), (4, .int i), (3, .ref q29), (2, .ref q13), (1, .ref q1), (0, .ref b)]) hx hb dL_law_962 hl (by decide) rfl (fun ls hl => ?_)
  refine lv_aload_n hx hb dL_law_964 rfl (lv_at hl 3 rfl) ?_
  refine lv_aload_n hx hb dL_law_965 rfl (lv_at hl 5 rfl) ?_
  refine lv_iload hx hb dL_law_966 (lv_at hl 1 rfl) ?_
  refine ty_iconst hx hb (1) dL_law_968 (by decide) (fun x1092 h1093 => ?_)
  refine ty_iadd hx hb dL_law_969 (fun x1094 h1095 => ?_)
  have h1096 := lw_ix (k := 1) h1093 h1095 hi0 hiL hLN (by decide)
  refine va_sld hx hb hXs hbl hbA hS (i := x1094) (ty_ix h1096.2) dL_law_970 ?_
  refine W.eq (g2 := F0 m 971 ls [.int (xs (i.toInt.toNat + 1)), .ref q13]) (by rw [lw_xs (xs := xs) h1096.1 hi0.1]) ?_
  clear h1096 h1095 h1093
  refine W.eq (g2 := F0 m 971 ls [.int x1080, .ref q13]) (by rw [s1081]) ?_
  refine lv_aload_n hx hb dL_law_971 rfl (lv_at hl 5 rfl) ?_
  refine lv_iload hx hb dL_law_972 (lv_at hl 1 rfl) ?_
  refine ty_iconst hx hb (2) dL_law_974 (by decide) (fun x1097 h1098 => ?_)
  refine ty_iadd hx hb dL_law_975 (fun x1099 h1100 => ?_)
  have h1101 := lw_ix (k := 2) h1098 h1100 hi0 hiL hLN (by decide)
  refine va_sld hx hb hXs hbl hbA hS (i := x1099) (ty_ix h1101.2) dL_law_976 ?_
  refine W.eq (g2 := F0 m 977 ls [.int (xs (i.toInt.toNat + 2)), .int x1080, .ref q13]) (by rw [lw_xs (xs := xs) h1101.1 hi0.1]) ?_
  clear h1101 h1100 h1098
  refine W.eq (g2 := F0 m 977 ls [.int x1087, .int x1080, .ref q13]) (by rw [s1088]) ?_
  refine cI (va_runV (C := RX9) (As := [.int x1080, .int x1087]) (rest := []) ⟨hx, hb, hml, hown, hA⟩ (k_X9_of l dC dI dA sz ((q29, .inl (dA 3, 1, .inr (.inl f1090))) :: X) Γ hU g q13 t_q13 x1080 x1087   (RM_126 hRL rfl)) ⟨callB_of 2 hA (al_A wd_5_234) rfl rfl rfl (hA _ wd_1_7) (hA _ wd_5_231) (by decide +kernel) ⟨Nat.le_of_ble_eq_true rfl, Nat.le_of_ble_eq_true rfl⟩, hA _ wd_5_232, hA _ wd_5_233⟩ ⟨bl, recv_X9 hE hG t_q13, fun U hU9 hW9 => ⟨rfl, by rw [hU9]; exact hG, hE.go hS hU9 hW9⟩⟩ rfl rfl hl.1 rfl (lv_room (Nat.le_of_ble_eq_true rfl)) dL_law_977 ⟨(Nat.le_trans (show (kc + 1) + 0 ≤ 300000 by omega) (Nat.le_of_ble_eq_true rfl)), (Nat.le_trans (show (ks + 6) + 0 ≤ 300000 by omega) (Nat.le_of_ble_eq_true rfl))⟩) hS (fun x1104 u1102 H locs w1103 hG hS => ?_)
  obtain ⟨hf1106, hq1105⟩ := w1103
  replace hq1105 := HD.mk hq1105
  have hw1107 : ∀ c, c ∉ ([100] : List Nat) → u1102 c = g c := fun c hc => funext fun j => hf1106 c j (fun q => hc (by rw [q]; decide))
  obtain ⟨hst1108, hth1109, hto1110⟩ := st_of hRL hw1107 w1091.v hq1105.v
  replace hto1110 := HD.mk hto1110
  refine lv_istore (lv' := [(6, .int x1104), (5, .int x1089), (4, .int i), (3, .ref q29), (2, .ref q13), (1, .ref q1), (0, .ref b)]) hx hb dL_law_980 hl (by decide) rfl (fun ls hl => ?_)
  refine lv_aload_n hx hb dL_law_982 rfl (lv_at hl 4 rfl) ?_
  refine cI (va_runV (C := RX9) (As := []) (rest := []) ⟨hx, hb, hml, hown, hA⟩ (k_X9_thrown l dC dI dA sz ((q29, .inl (dA 3, 1, .inr (.inl f1090))) :: X) Γ hU u1102 q13 t_q13   ) ⟨callB_of 0 hA (al_A wd_4_127) rfl rfl rfl (hA _ wd_1_7) (hA _ wd_4_124) (by decide +kernel) ⟨Nat.le_of_ble_eq_true rfl, Nat.le_of_ble_eq_true rfl⟩, hA _ wd_4_125, hA _ wd_4_126⟩ ⟨bl, recv_X9 hE hG t_q13, fun U hU9 hW9 => ⟨rfl, by rw [hU9]; exact hG, hE.go hS hU9 hW9⟩⟩ rfl rfl hl.1 rfl (lv_room (Nat.le_of_ble_eq_true rfl)) dL_law_983 ⟨(Nat.le_trans (show (kc + 1) + 0 ≤ 300000 by omega) (Nat.le_of_ble_eq_true rfl)), (Nat.le_trans (show (ks + 6) + 0 ≤ 300000 by omega) (Nat.le_of_ble_eq_true rfl))⟩) hS (fun x1113 u1111 H locs w1112 hG hS => ?_)
  obtain ⟨eu1114, w1112⟩ := w1112
  rw [eu1114] at hG
  refine lv_iload hx hb dL_law_986 (lv_at hl 1 rfl) ?_
  refine ty_icmp_eq (tgt := 993) hx hb dL_law_988 (by decide) (fun c1115 => ?_) (fun c1115 => ?_)
  · skip
    refine lv_iload hx hb dL_law_993 (lv_at hl 1 rfl) ?_
    refine ty_if_ne (tgt := 1010) hx hb dL_law_995 (by decide) (fun c1116 => ?_) (fun c1116 => ?_)
    · skip
      refine lv_goto (tgt := 1075) hx hb dL_law_1010 (by decide) ?_
      obtain ⟨x1117, h1118⟩ : ∃ y : Int32, y = i + Int32.ofInt (6) := ⟨_, rfl⟩
      try have h1119 : x1117.toInt = i.toInt + (6) := ty_inc h1118 (by decide) (by omega) (by omega)
      refine lv_iinc (v := x1117) (lv' := [(4, .int x1117), (6, .int x1104), (5, .int x1089), (3, .ref q29), (2, .ref q13), (1, .ref q1), (0, .ref b)]) hx hb dL_law_1075 hl (k := 2) rfl h1118.symm (by decide) rfl (fun ls hl => ?_)
      refine lv_goto (tgt := 23) hx hb dL_law_1078 (by decide) ?_
      exact ih x1117 Γ u1102 ((kc + 1)) ((ks + 6)) _ _ ls f1090 (by omega) (by omega) (by have a9 := congrFun (hw1107 4 (by decide)) 0; have b9 := True.intro; omega) hst1108 (IJ_e hIJ (hw1107 126 (by decide)) (hw1107 132 (by decide)) (hw1107 134 (by decide))) (Bd_e hBd (hw1107 33 (by decide)) (hw1107 34 (by decide)) (hw1107 35 (by decide))) hU t_q1 t_q13  (by omega) (by omega) hG hS (lv_sub hl [0, 3, 4, 5, 6] rfl)
    · skip
      refine lv_aload_n hx hb dL_law_998 rfl (lv_at hl 3 rfl) ?_
      refine ty_iconst hx hb (0) dL_law_999 (by decide) (fun x1120 h1121 => ?_)
      refine ald_X (H0 := H) hx hb hE hG (by omega) dL_law_1000 ?_
      refine lv_iload hx hb dL_law_1001 (lv_at hl 0 rfl) ?_
      refine lv_i2l hx hb dL_law_1003 rfl ?_
      refine W.lcmp hx hb dL_law_1004 ?_
      refine lv_topi (fun x1122 h1123 => ?_)
      replace h1123 := lw_cmp h1123 (hto1110.v (by omega))
      refine ty_if_eq (tgt := 1010) hx hb dL_law_1005 (by decide) (fun c1124 => ?_) (fun c1124 => ?_)
      · skip
        refine lv_goto (tgt := 1075) hx hb dL_law_1010 (by decide) ?_
        obtain ⟨x1125, h1126⟩ : ∃ y : Int32, y = i + Int32.ofInt (6) := ⟨_, rfl⟩
        try have h1127 : x1125.toInt = i.toInt + (6) := ty_inc h1126 (by decide) (by omega) (by omega)
        refine lv_iinc (v := x1125) (lv' := [(4, .int x1125), (6, .int x1104), (5, .int x1089), (3, .ref q29), (2, .ref q13), (1, .ref q1), (0, .ref b)]) hx hb dL_law_1075 hl (k := 2) rfl h1126.symm (by decide) rfl (fun ls hl => ?_)
        refine lv_goto (tgt := 23) hx hb dL_law_1078 (by decide) ?_
        exact ih x1125 Γ u1102 ((kc + 1)) ((ks + 6)) _ _ ls f1090 (by omega) (by omega) (by have a9 := congrFun (hw1107 4 (by decide)) 0; have b9 := True.intro; omega) hst1108 (IJ_e hIJ (hw1107 126 (by decide)) (hw1107 132 (by decide)) (hw1107 134 (by decide))) (Bd_e hBd (hw1107 33 (by decide)) (hw1107 34 (by decide)) (hw1107 35 (by decide))) hU t_q1 t_q13  (by omega) (by omega) hG hS (lv_sub hl [0, 3, 4, 5, 6] rfl)
      · exfalso; omega
  · exfalso; omega
set_option maxHeartbeats 40000000 in
set_option maxRecDepth 100000 in
/-- the law's case 22 -/
theorem law_c22 {p : Program} {e : Env} {s : State} {m : MethodId} {below : List Frame} {meth : Method} {c : Code} (l : Launch) (hl9 : l.stackTraces = false) {b L : Nat} {xs : Nat → Int32} (hLN : L ≤ 3072) (hx : p.tables.exec = Jvm.exec) (hb : c.code = code) (hr : meth.sig.returnType = ret) (hml : c.maxLocals = 7) (hown : s.vm.findClass R_law = some m.cls) (hA : ∀ w ∈ AL, w.before #[Value.ref b] s = true) (hXs : va_X b L xs s s.heap) (hbl : b < s.heap.size) (hlocks : meth.locks = false) {dC : Nat → ClassId} {dI : Nat → Nat → Nat} {dA : Nat → ClassId} {sz : Nat} (hE : en dC dI dA sz s) (hsz : sz = s.heap.size) (hbA : ¬ ty_A sz b) (X : va_W) (q1 q13 q29 : Nat) (n : Nat) (ih : LJ p l e s m below meth c b dC dI dA sz X q1 q13 q29 n) (i : Int32) (Γ : ty_G) (g : gh) (kc ks : Nat) (H : Heap) (locs : List Loc) (ls : Array Slot) (fq : Nat → Int64) (hm : (3073 - i.toInt : Int) < (n + 1 : Nat)) (hi0 : 0 ≤ i.toInt ∧ i.toInt ≤ 3072) (hy4 : g 4 0 ≤ i.toInt) (hRL : RLA g) (hIJ : IJ g) (hBd : Bd Γ g) (hU : Un Γ) (t_q1 : ty Γ q1 1) (t_q13 : ty Γ q13 30) (hkc : kc ≤ 300 + i.toInt.toNat) (hks : ks ≤ 30000 + 28 * i.toInt.toNat) (hG : ty_ok (dC, dI) vwCl Γ (TP dA Γ g) sz ((q29, .inl (dA 3, 1, .inr (.inl fq))) :: X) H) (hS : va_S (ty_A sz) s.heap H locs) (hl : lv_has ls 7 [(4, .int i), (3, .ref q29), (2, .ref q13), (1, .ref q1), (0, .ref b)]) (hiL : i.toInt + 6 ≤ (L : Int)) : W p l e room_1 s m #[Value.ref b] below meth c H locs kc ks (lw_Z below #[Value.ref b] s) (F0 m 1013 ls []) := by
  refine lv_aload_n hx hb dL_law_1013 rfl (lv_at hl 3 rfl) ?_
  refine lv_aload_n hx hb dL_law_1014 rfl (lv_at hl 4 rfl) ?_
  refine lv_iload hx hb dL_law_1015 (lv_at hl 0 rfl) ?_
  refine ty_iconst hx hb (1) dL_law_1017 (by decide) (fun x1128 h1129 => ?_)
  refine ty_iadd hx hb dL_law_1018 (fun x1130 h1131 => ?_)
  have h1132 := lw_ix (k := 1) h1129 h1131 hi0 hiL hLN (by decide)
  refine va_sld hx hb hXs hbl hbA hS (i := x1130) (ty_ix h1132.2) dL_law_1019 ?_
  refine W.eq (g2 := F0 m 1020 ls [.int (xs (i.toInt.toNat + 1)), .ref q1]) (by rw [lw_xs (xs := xs) h1132.1 hi0.1]) ?_
  clear h1132 h1131 h1129
  refine lv_topi (fun x1133 s1134 => ?_)
  refine lv_aload_n hx hb dL_law_1020 rfl (lv_at hl 4 rfl) ?_
  refine lv_iload hx hb dL_law_1021 (lv_at hl 0 rfl) ?_
  refine ty_iconst hx hb (2) dL_law_1023 (by decide) (fun x1135 h1136 => ?_)
  refine ty_iadd hx hb dL_law_1024 (fun x1137 h1138 => ?_)
  have h1139 := lw_ix (k := 2) h1136 h1138 hi0 hiL hLN (by decide)
  refine va_sld hx hb hXs hbl hbA hS (i := x1137) (ty_ix h1139.2) dL_law_1025 ?_
  refine W.eq (g2 := F0 m 1026 ls [.int (xs (i.toInt.toNat + 2)), .int x1133, .ref q1]) (by rw [lw_xs (xs := xs) h1139.1 hi0.1]) ?_
  clear h1139 h1138 h1136
  refine lv_topi (fun x1140 s1141 => ?_)
  refine cI (va_runV (C := RX8) (As := [.int x1133, .int x1140]) (rest := []) ⟨hx, hb, hml, hown, hA⟩ (k_X8_ownerOf l dC dI dA sz ((q29, .inl (dA 3, 1, .inr (.inl fq))) :: X) Γ hU g q1 t_q1 x1133 x1140   (RL_2 hRL)) ⟨callB_of 2 hA (al_A wd_4_41) rfl rfl rfl (hA _ wd_1_1) (hA _ wd_4_38) (by decide +kernel) ⟨Nat.le_of_ble_eq_true rfl, Nat.le_of_ble_eq_true rfl⟩, hA _ wd_4_39, hA _ wd_4_40⟩ ⟨bl, recv_X8 hE hG t_q1, fun U hU9 hW9 => ⟨rfl, by rw [hU9]; exact hG, hE.go hS hU9 hW9⟩⟩ rfl rfl hl.1 rfl (lv_room (Nat.le_of_ble_eq_true rfl)) dL_law_1026 ⟨(Nat.le_trans (show kc + 0 ≤ 300000 by omega) (Nat.le_of_ble_eq_true rfl)), (Nat.le_trans (show ks + 0 ≤ 300000 by omega) (Nat.le_of_ble_eq_true rfl))⟩) hS (fun x1144 u1142 H locs w1143 hG hS => ?_)
  obtain ⟨eu1145, w1143⟩ := w1143
  rw [eu1145] at hG
  replace w1143 := HD.mk w1143
  refine lv_pop hx hb dL_law_1029 rfl ?_
  refine lv_aload_n hx hb dL_law_1030 rfl (lv_at hl 2 rfl) ?_
  refine lv_aload_n hx hb dL_law_1031 rfl (lv_at hl 4 rfl) ?_
  refine lv_iload hx hb dL_law_1032 (lv_at hl 0 rfl) ?_
  refine ty_iconst hx hb (1) dL_law_1034 (by decide) (fun x1146 h1147 => ?_)
  refine ty_iadd hx hb dL_law_1035 (fun x1148 h1149 => ?_)
  have h1150 := lw_ix (k := 1) h1147 h1149 hi0 hiL hLN (by decide)
  refine va_sld hx hb hXs hbl hbA hS (i := x1148) (ty_ix h1150.2) dL_law_1036 ?_
  refine W.eq (g2 := F0 m 1037 ls [.int (xs (i.toInt.toNat + 1)), .ref q13]) (by rw [lw_xs (xs := xs) h1150.1 hi0.1]) ?_
  clear h1150 h1149 h1147
  refine W.eq (g2 := F0 m 1037 ls [.int x1133, .ref q13]) (by rw [s1134]) ?_
  refine lv_aload_n hx hb dL_law_1037 rfl (lv_at hl 4 rfl) ?_
  refine lv_iload hx hb dL_law_1038 (lv_at hl 0 rfl) ?_
  refine ty_iconst hx hb (2) dL_law_1040 (by decide) (fun x1151 h1152 => ?_)
  refine ty_iadd hx hb dL_law_1041 (fun x1153 h1154 => ?_)
  have h1155 := lw_ix (k := 2) h1152 h1154 hi0 hiL hLN (by decide)
  refine va_sld hx hb hXs hbl hbA hS (i := x1153) (ty_ix h1155.2) dL_law_1042 ?_
  refine W.eq (g2 := F0 m 1043 ls [.int (xs (i.toInt.toNat + 2)), .int x1133, .ref q13]) (by rw [lw_xs (xs := xs) h1155.1 hi0.1]) ?_
  clear h1155 h1154 h1152
  refine W.eq (g2 := F0 m 1043 ls [.int x1140, .int x1133, .ref q13]) (by rw [s1141]) ?_
  refine cI (va_runV (C := RX9) (As := [.int x1133, .int x1140]) (rest := []) ⟨hx, hb, hml, hown, hA⟩ (k_X9_ownerOf l dC dI dA sz ((q29, .inl (dA 3, 1, .inr (.inl fq))) :: X) Γ hU g q13 t_q13 x1133 x1140   (RM_104 hRL rfl)) ⟨callB_of 2 hA (al_A wd_5_238) rfl rfl rfl (hA _ wd_1_7) (hA _ wd_5_235) (by decide +kernel) ⟨Nat.le_of_ble_eq_true rfl, Nat.le_of_ble_eq_true rfl⟩, hA _ wd_5_236, hA _ wd_5_237⟩ ⟨bl, recv_X9 hE hG t_q13, fun U hU9 hW9 => ⟨rfl, by rw [hU9]; exact hG, hE.go hS hU9 hW9⟩⟩ rfl rfl hl.1 rfl (lv_room (Nat.le_of_ble_eq_true rfl)) dL_law_1043 ⟨(Nat.le_trans (show kc + 0 ≤ 300000 by omega) (Nat.le_of_ble_eq_true rfl)), (Nat.le_trans (show ks + 0 ≤ 300000 by omega) (Nat.le_of_ble_eq_true rfl))⟩) hS (fun x1158 u1156 H locs w1157 hG hS => ?_)
  obtain ⟨hf1159, w1157⟩ := w1157
  replace w1157 := HD.mk w1157
  have hw1160 : ∀ c, c ∉ ([100] : List Nat) → u1156 c = g c := fun c hc => funext fun j => hf1159 c j (fun q => hc (by rw [q]; decide))
  have hst1161 := st_ownerOf (g := g) (u1 := g) (u2 := u1156) (r1 := x1144) (r2 := x1158) hRL (fun _ _ => rfl) hw1160 w1143.v w1157.v
  have hrr1162 := hst1161.2
  refine lv_pop hx hb dL_law_1046 rfl ?_
  refine lv_goto (tgt := 1075) hx hb dL_law_1047 (by decide) ?_
  obtain ⟨x1163, h1164⟩ : ∃ y : Int32, y = i + Int32.ofInt (6) := ⟨_, rfl⟩
  try have h1165 : x1163.toInt = i.toInt + (6) := ty_inc h1164 (by decide) (by omega) (by omega)
  refine lv_iinc (v := x1163) (lv' := [(4, .int x1163), (3, .ref q29), (2, .ref q13), (1, .ref q1), (0, .ref b)]) hx hb dL_law_1075 hl (k := 0) rfl h1164.symm (by decide) rfl (fun ls hl => ?_)
  refine lv_goto (tgt := 23) hx hb dL_law_1078 (by decide) ?_
  exact ih x1163 Γ u1156 (kc) (ks) _ _ ls fq (by omega) (by omega) (by have a9 := congrFun (hw1160 4 (by decide)) 0; have b9 := True.intro; omega) hst1161.1 (IJ_e hIJ (hw1160 126 (by decide)) (hw1160 132 (by decide)) (hw1160 134 (by decide))) (Bd_e hBd (hw1160 33 (by decide)) (hw1160 34 (by decide)) (hw1160 35 (by decide))) hU t_q1 t_q13  (by omega) (by omega) hG hS (lv_sub hl [0, 1, 2, 3, 4] rfl)
set_option maxHeartbeats 40000000 in
set_option maxRecDepth 100000 in
/-- the law's case 23 -/
theorem law_c23 {p : Program} {e : Env} {s : State} {m : MethodId} {below : List Frame} {meth : Method} {c : Code} (l : Launch) (hl9 : l.stackTraces = false) {b L : Nat} {xs : Nat → Int32} (hLN : L ≤ 3072) (hx : p.tables.exec = Jvm.exec) (hb : c.code = code) (hr : meth.sig.returnType = ret) (hml : c.maxLocals = 7) (hown : s.vm.findClass R_law = some m.cls) (hA : ∀ w ∈ AL, w.before #[Value.ref b] s = true) (hXs : va_X b L xs s s.heap) (hbl : b < s.heap.size) (hlocks : meth.locks = false) {dC : Nat → ClassId} {dI : Nat → Nat → Nat} {dA : Nat → ClassId} {sz : Nat} (hE : en dC dI dA sz s) (hsz : sz = s.heap.size) (hbA : ¬ ty_A sz b) (X : va_W) (q1 q13 q29 : Nat) (n : Nat) (ih : LJ p l e s m below meth c b dC dI dA sz X q1 q13 q29 n) (i : Int32) (Γ : ty_G) (g : gh) (kc ks : Nat) (H : Heap) (locs : List Loc) (ls : Array Slot) (fq : Nat → Int64) (hm : (3073 - i.toInt : Int) < (n + 1 : Nat)) (hi0 : 0 ≤ i.toInt ∧ i.toInt ≤ 3072) (hy4 : g 4 0 ≤ i.toInt) (hRL : RLA g) (hIJ : IJ g) (hBd : Bd Γ g) (hU : Un Γ) (t_q1 : ty Γ q1 1) (t_q13 : ty Γ q13 30) (hkc : kc ≤ 300 + i.toInt.toNat) (hks : ks ≤ 30000 + 28 * i.toInt.toNat) (hG : ty_ok (dC, dI) vwCl Γ (TP dA Γ g) sz ((q29, .inl (dA 3, 1, .inr (.inl fq))) :: X) H) (hS : va_S (ty_A sz) s.heap H locs) (hl : lv_has ls 7 [(4, .int i), (3, .ref q29), (2, .ref q13), (1, .ref q1), (0, .ref b)]) (hiL : i.toInt + 6 ≤ (L : Int)) : W p l e room_1 s m #[Value.ref b] below meth c H locs kc ks (lw_Z below #[Value.ref b] s) (F0 m 1050 ls []) := by
  refine lv_aload_n hx hb dL_law_1050 rfl (lv_at hl 3 rfl) ?_
  refine lv_aload_n hx hb dL_law_1051 rfl (lv_at hl 4 rfl) ?_
  refine lv_iload hx hb dL_law_1052 (lv_at hl 0 rfl) ?_
  refine ty_iconst hx hb (1) dL_law_1054 (by decide) (fun x1166 h1167 => ?_)
  refine ty_iadd hx hb dL_law_1055 (fun x1168 h1169 => ?_)
  have h1170 := lw_ix (k := 1) h1167 h1169 hi0 hiL hLN (by decide)
  refine va_sld hx hb hXs hbl hbA hS (i := x1168) (ty_ix h1170.2) dL_law_1056 ?_
  refine W.eq (g2 := F0 m 1057 ls [.int (xs (i.toInt.toNat + 1)), .ref q1]) (by rw [lw_xs (xs := xs) h1170.1 hi0.1]) ?_
  clear h1170 h1169 h1167
  refine lv_topi (fun x1171 s1172 => ?_)
  refine cI (va_runV (C := RX8) (As := [.int x1171]) (rest := []) ⟨hx, hb, hml, hown, hA⟩ (k_X8_count l dC dI dA sz ((q29, .inl (dA 3, 1, .inr (.inl fq))) :: X) Γ hU g q1 t_q1 x1171   (RL_2 hRL) (RL_3 hRL)) ⟨callB_of 1 hA (al_A wd_4_45) rfl rfl rfl (hA _ wd_1_1) (hA _ wd_4_42) (by decide +kernel) ⟨Nat.le_of_ble_eq_true rfl, Nat.le_of_ble_eq_true rfl⟩, hA _ wd_4_43, hA _ wd_4_44⟩ ⟨bl, recv_X8 hE hG t_q1, fun U hU9 hW9 => ⟨rfl, by rw [hU9]; exact hG, hE.go hS hU9 hW9⟩⟩ rfl rfl hl.1 rfl (lv_room (Nat.le_of_ble_eq_true rfl)) dL_law_1057 ⟨(Nat.le_trans (show kc + 0 ≤ 300000 by omega) (Nat.le_of_ble_eq_true rfl)), (Nat.le_trans (show ks + 0 ≤ 300000 by omega) (Nat.le_of_ble_eq_true rfl))⟩) hS (fun x1175 u1173 H locs w1174 hG hS => ?_)
  obtain ⟨eu1176, w1174⟩ := w1174
  rw [eu1176] at hG
  replace w1174 := HD.mk w1174
  refine lv_pop hx hb dL_law_1060 rfl ?_
  refine lv_aload_n hx hb dL_law_1061 rfl (lv_at hl 2 rfl) ?_
  refine lv_aload_n hx hb dL_law_1062 rfl (lv_at hl 4 rfl) ?_
  refine lv_iload hx hb dL_law_1063 (lv_at hl 0 rfl) ?_
  refine ty_iconst hx hb (1) dL_law_1065 (by decide) (fun x1177 h1178 => ?_)
  refine ty_iadd hx hb dL_law_1066 (fun x1179 h1180 => ?_)
  have h1181 := lw_ix (k := 1) h1178 h1180 hi0 hiL hLN (by decide)
  refine va_sld hx hb hXs hbl hbA hS (i := x1179) (ty_ix h1181.2) dL_law_1067 ?_
  refine W.eq (g2 := F0 m 1068 ls [.int (xs (i.toInt.toNat + 1)), .ref q13]) (by rw [lw_xs (xs := xs) h1181.1 hi0.1]) ?_
  clear h1181 h1180 h1178
  refine W.eq (g2 := F0 m 1068 ls [.int x1171, .ref q13]) (by rw [s1172]) ?_
  refine cI (va_runV (C := RX9) (As := [.int x1171]) (rest := []) ⟨hx, hb, hml, hown, hA⟩ (k_X9_count l dC dI dA sz ((q29, .inl (dA 3, 1, .inr (.inl fq))) :: X) Γ hU g q13 t_q13 x1171   (RM_104 hRL rfl) (RM_126 hRL rfl) (RM_122 hRL rfl)) ⟨callB_of 1 hA (al_A wd_6_2) rfl rfl rfl (hA _ wd_1_7) (hA _ wd_5_239) (by decide +kernel) ⟨Nat.le_of_ble_eq_true rfl, Nat.le_of_ble_eq_true rfl⟩, hA _ wd_6_0, hA _ wd_6_1⟩ ⟨bl, recv_X9 hE hG t_q13, fun U hU9 hW9 => ⟨rfl, by rw [hU9]; exact hG, hE.go hS hU9 hW9⟩⟩ rfl rfl hl.1 rfl (lv_room (Nat.le_of_ble_eq_true rfl)) dL_law_1068 ⟨(Nat.le_trans (show kc + 0 ≤ 300000 by omega) (Nat.le_of_ble_eq_true rfl)), (Nat.le_trans (show ks + 0 ≤ 300000 by omega) (Nat.le_of_ble_eq_true rfl))⟩) hS (fun x1184 u1182 H locs w1183 hG hS => ?_)
  obtain ⟨hf1185, w1183⟩ := w1183
  replace w1183 := HD.mk w1183
  have hw1186 : ∀ c, c ∉ ([100] : List Nat) → u1182 c = g c := fun c hc => funext fun j => hf1185 c j (fun q => hc (by rw [q]; decide))
  have hst1187 := st_count (g := g) (u1 := g) (u2 := u1182) (r1 := x1175) (r2 := x1184) hRL (fun _ _ => rfl) hw1186 w1174.v w1183.v
  have hrr1188 := hst1187.2
  refine lv_pop hx hb dL_law_1071 rfl ?_
  refine lv_goto (tgt := 1075) hx hb dL_law_1072 (by decide) ?_
  obtain ⟨x1189, h1190⟩ : ∃ y : Int32, y = i + Int32.ofInt (6) := ⟨_, rfl⟩
  try have h1191 : x1189.toInt = i.toInt + (6) := ty_inc h1190 (by decide) (by omega) (by omega)
  refine lv_iinc (v := x1189) (lv' := [(4, .int x1189), (3, .ref q29), (2, .ref q13), (1, .ref q1), (0, .ref b)]) hx hb dL_law_1075 hl (k := 0) rfl h1190.symm (by decide) rfl (fun ls hl => ?_)
  refine lv_goto (tgt := 23) hx hb dL_law_1078 (by decide) ?_
  exact ih x1189 Γ u1182 (kc) (ks) _ _ ls fq (by omega) (by omega) (by have a9 := congrFun (hw1186 4 (by decide)) 0; have b9 := True.intro; omega) hst1187.1 (IJ_e hIJ (hw1186 126 (by decide)) (hw1186 132 (by decide)) (hw1186 134 (by decide))) (Bd_e hBd (hw1186 33 (by decide)) (hw1186 34 (by decide)) (hw1186 35 (by decide))) hU t_q1 t_q13  (by omega) (by omega) hG hS (lv_sub hl [0, 1, 2, 3, 4] rfl)
