set_option maxHeartbeats 40000000 in
set_option maxRecDepth 100000 in
/-- the law's case 16 -/
theorem law_c16 {p : Program} {e : Env} {s : State} {m : MethodId} {below : List Frame} {meth : Method} {c : Code} (l : Launch) (hl9 : l.stackTraces = false) {b L : Nat} {xs : Nat → Int32} (hLN : L ≤ 3072) (hx : p.tables.exec = Jvm.exec) (hb : c.code = code) (hr : meth.sig.returnType = ret) (hml : c.maxLocals = 7) (hown : s.vm.findClass R_law = some m.cls) (hA : ∀ w ∈ AL, w.before #[Value.ref b] s = true) (hXs : va_X b L xs s s.heap) (hbl : b < s.heap.size) (hlocks : meth.locks = false) {dC : Nat → ClassId} {dI : Nat → Nat → Nat} {dA : Nat → ClassId} {sz : Nat} (hE : en dC dI dA sz s) (hsz : sz = s.heap.size) (hbA : ¬ ty_A sz b) (X : va_W) (q1 q13 q29 : Nat) (n : Nat) (ih : LJ p l e s m below meth c b dC dI dA sz X q1 q13 q29 n) (i : Int32) (Γ : ty_G) (g : gh) (kc ks : Nat) (H : Heap) (locs : List Loc) (ls : Array Slot) (hm : (3073 - i.toInt : Int) < (n + 1 : Nat)) (hi0 : 0 ≤ i.toInt ∧ i.toInt ≤ 3072) (hy4 : g 4 0 ≤ i.toInt) (hRL : RLA g) (hIJ : IJ g) (hBd : Bd Γ g) (hU : Un Γ) (t_q1 : ty Γ q1 1) (t_q13 : ty Γ q13 30) (t_q29 : ty Γ q29 25) (hkc : kc ≤ 300 + i.toInt.toNat) (hks : ks ≤ 30000 + 28 * i.toInt.toNat) (hG : ty_ok (dC, dI) vwCl Γ (TP dA Γ g) sz X H) (hS : va_S (ty_A sz) s.heap H locs) (hl : lv_has ls 7 [(4, .int i), (3, .ref q29), (2, .ref q13), (1, .ref q1), (0, .ref b)]) (hiL : i.toInt + 6 ≤ (L : Int)) : W p l e room_1 s m #[Value.ref b] below meth c H locs kc ks (lw_Z below #[Value.ref b] s) (F0 m 768 ls []) := by
  refine lv_aload_n hx hb dL_law_768 rfl (lv_at hl 3 rfl) ?_
  refine lv_aload_n hx hb dL_law_769 rfl (lv_at hl 4 rfl) ?_
  refine lv_iload hx hb dL_law_770 (lv_at hl 0 rfl) ?_
  refine ty_iconst hx hb (1) dL_law_772 (by decide) (fun x839 h840 => ?_)
  refine ty_iadd hx hb dL_law_773 (fun x841 h842 => ?_)
  have h843 := lw_ix (k := 1) h840 h842 hi0 hiL hLN (by decide)
  refine va_sld hx hb hXs hbl hbA hS (i := x841) (ty_ix h843.2) dL_law_774 ?_
  refine W.eq (g2 := F0 m 775 ls [.int (xs (i.toInt.toNat + 1)), .ref q1]) (by rw [lw_xs (xs := xs) h843.1 hi0.1]) ?_
  clear h843 h842 h840
  refine lv_topi (fun x844 s845 => ?_)
  refine cI (va_runV (C := RX8) (As := [.int x844]) (rest := []) ⟨hx, hb, hml, hown, hA⟩ (k_X8_weeks l dC dI dA sz X Γ hU g q1 t_q1 x844   (RL_3 hRL) (RL_5 hRL)) ⟨callB_of 1 hA (al_A wd_3_220) rfl rfl rfl (hA _ wd_1_1) (hA _ wd_3_217) (by decide +kernel) ⟨Nat.le_of_ble_eq_true rfl, Nat.le_of_ble_eq_true rfl⟩, hA _ wd_3_218, hA _ wd_3_219⟩ ⟨bl, recv_X8 hE hG t_q1, fun U hU9 hW9 => ⟨rfl, by rw [hU9]; exact hG, hE.go hS hU9 hW9⟩⟩ rfl rfl hl.1 rfl (lv_room (Nat.le_of_ble_eq_true rfl)) dL_law_775 ⟨(Nat.le_trans (show kc + 0 ≤ 300000 by omega) (Nat.le_of_ble_eq_true rfl)), (Nat.le_trans (show ks + 0 ≤ 300000 by omega) (Nat.le_of_ble_eq_true rfl))⟩) hS (fun x848 u846 H locs w847 hG hS => ?_)
  obtain ⟨hf850, w847, hq849⟩ := w847
  replace w847 := HD.mk w847
  replace hq849 := HD.mk hq849
  have hw851 : ∀ c, c ∉ ([5, 65] : List Nat) → u846 c = g c := fun c hc => funext fun j => hf850 c j (fun q => hc (by rw [q]; decide)) (fun q => hc (by rw [q]; decide))
  have hb852 : Bd Γ u846 := Bd_e hBd (hw851 33 (by decide)) (hw851 34 (by decide)) (hw851 35 (by decide))
  have hj853 : IJ u846 := IJ_e hIJ (hw851 126 (by decide)) (hw851 132 (by decide)) (hw851 134 (by decide))
  refine lv_pop hx hb dL_law_778 rfl ?_
  refine lv_aload_n hx hb dL_law_779 rfl (lv_at hl 2 rfl) ?_
  refine lv_aload_n hx hb dL_law_780 rfl (lv_at hl 4 rfl) ?_
  refine lv_iload hx hb dL_law_781 (lv_at hl 0 rfl) ?_
  refine ty_iconst hx hb (1) dL_law_783 (by decide) (fun x854 h855 => ?_)
  refine ty_iadd hx hb dL_law_784 (fun x856 h857 => ?_)
  have h858 := lw_ix (k := 1) h855 h857 hi0 hiL hLN (by decide)
  refine va_sld hx hb hXs hbl hbA hS (i := x856) (ty_ix h858.2) dL_law_785 ?_
  refine W.eq (g2 := F0 m 786 ls [.int (xs (i.toInt.toNat + 1)), .ref q13]) (by rw [lw_xs (xs := xs) h858.1 hi0.1]) ?_
  clear h858 h857 h855
  refine W.eq (g2 := F0 m 786 ls [.int x844, .ref q13]) (by rw [s845]) ?_
  refine cI (va_runV (C := RX9) (As := [.int x844]) (rest := []) ⟨hx, hb, hml, hown, hA⟩ (k_X9_weeks l dC dI dA sz X Γ hU u846 q13 t_q13 x844   (RM_126 hRL (hw851 126 (by decide))) (RM_112 hRL (hw851 112 (by decide))) (hj853)) ⟨callB_of 1 hA (al_A wd_5_193) rfl rfl rfl (hA _ wd_1_7) (hA _ wd_5_190) (by decide +kernel) ⟨Nat.le_of_ble_eq_true rfl, Nat.le_of_ble_eq_true rfl⟩, hA _ wd_5_191, hA _ wd_5_192⟩ ⟨bl, recv_X9 hE hG t_q13, fun U hU9 hW9 => ⟨rfl, by rw [hU9]; exact hG, hE.go hS hU9 hW9⟩⟩ rfl rfl hl.1 rfl (lv_room (Nat.le_of_ble_eq_true rfl)) dL_law_786 ⟨(Nat.le_trans (show kc + 0 ≤ 300000 by omega) (Nat.le_of_ble_eq_true rfl)), (Nat.le_trans (show ks + 0 ≤ 300000 by omega) (Nat.le_of_ble_eq_true rfl))⟩) hS (fun x861 u859 H locs w860 hG hS => ?_)
  obtain ⟨hf864, w860, hq862, hq863⟩ := w860
  replace w860 := HD.mk w860
  replace hq863 := HD.mk hq863
  have hw865 : ∀ c, c ∉ ([100, 112, 132] : List Nat) → u859 c = u846 c := fun c hc => funext fun j => hf864 c j (fun q => hc (by rw [q]; decide)) (fun q => hc (by rw [q]; decide)) (fun q => hc (by rw [q]; decide))
  have hst866 := st_weeks (g := g) (u1 := u846) (u2 := u859) (r1 := x848) (r2 := x861) hRL hw851 hw865 w847.v.1 w847.v.2 hq849.v w860.v.1 w860.v.2 hq863.v
  have hrr867 := hst866.2
  refine lv_pop hx hb dL_law_789 rfl ?_
  refine lv_goto (tgt := 1047) hx hb dL_law_790 (by decide) ?_
  obtain ⟨x868, h869⟩ : ∃ y : Int32, y = i + Int32.ofInt (6) := ⟨_, rfl⟩
  try have h870 : x868.toInt = i.toInt + (6) := ty_inc h869 (by decide) (by omega) (by omega)
  refine lv_iinc (v := x868) (lv' := [(4, .int x868), (3, .ref q29), (2, .ref q13), (1, .ref q1), (0, .ref b)]) hx hb dL_law_1047 hl (k := 0) rfl h869.symm (by decide) rfl (fun ls hl => ?_)
  refine lv_goto (tgt := 23) hx hb dL_law_1050 (by decide) ?_
  exact ih x868 Γ u859 (kc) (ks) _ _ ls (by omega) (by omega) (by have a9 := congrFun (hw865 4 (by decide)) 0; have b9 := congrFun (hw851 4 (by decide)) 0; omega) hst866.1 hq862 (Bd_e hb852 (hw865 33 (by decide)) (hw865 34 (by decide)) (hw865 35 (by decide))) hU t_q1 t_q13 t_q29 (by omega) (by omega) hG hS (lv_sub hl [0, 1, 2, 3, 4] rfl)
set_option maxHeartbeats 40000000 in
set_option maxRecDepth 100000 in
/-- the law's case 17 -/
theorem law_c17 {p : Program} {e : Env} {s : State} {m : MethodId} {below : List Frame} {meth : Method} {c : Code} (l : Launch) (hl9 : l.stackTraces = false) {b L : Nat} {xs : Nat → Int32} (hLN : L ≤ 3072) (hx : p.tables.exec = Jvm.exec) (hb : c.code = code) (hr : meth.sig.returnType = ret) (hml : c.maxLocals = 7) (hown : s.vm.findClass R_law = some m.cls) (hA : ∀ w ∈ AL, w.before #[Value.ref b] s = true) (hXs : va_X b L xs s s.heap) (hbl : b < s.heap.size) (hlocks : meth.locks = false) {dC : Nat → ClassId} {dI : Nat → Nat → Nat} {dA : Nat → ClassId} {sz : Nat} (hE : en dC dI dA sz s) (hsz : sz = s.heap.size) (hbA : ¬ ty_A sz b) (X : va_W) (q1 q13 q29 : Nat) (n : Nat) (ih : LJ p l e s m below meth c b dC dI dA sz X q1 q13 q29 n) (i : Int32) (Γ : ty_G) (g : gh) (kc ks : Nat) (H : Heap) (locs : List Loc) (ls : Array Slot) (hm : (3073 - i.toInt : Int) < (n + 1 : Nat)) (hi0 : 0 ≤ i.toInt ∧ i.toInt ≤ 3072) (hy4 : g 4 0 ≤ i.toInt) (hRL : RLA g) (hIJ : IJ g) (hBd : Bd Γ g) (hU : Un Γ) (t_q1 : ty Γ q1 1) (t_q13 : ty Γ q13 30) (t_q29 : ty Γ q29 25) (hkc : kc ≤ 300 + i.toInt.toNat) (hks : ks ≤ 30000 + 28 * i.toInt.toNat) (hG : ty_ok (dC, dI) vwCl Γ (TP dA Γ g) sz X H) (hS : va_S (ty_A sz) s.heap H locs) (hl : lv_has ls 7 [(4, .int i), (3, .ref q29), (2, .ref q13), (1, .ref q1), (0, .ref b)]) (hiL : i.toInt + 6 ≤ (L : Int)) : W p l e room_1 s m #[Value.ref b] below meth c H locs kc ks (lw_Z below #[Value.ref b] s) (F0 m 793 ls []) := by
  refine lv_aload_n hx hb dL_law_793 rfl (lv_at hl 3 rfl) ?_
  refine cI (va_runV (C := RX8) (As := []) (rest := []) ⟨hx, hb, hml, hown, hA⟩ (k_X8_year l dC dI dA sz X Γ hU g q1 t_q1   (RL_1 hRL) (RL_3 hRL) (RL_4 hRL hy4 hi0.2)) ⟨callB_of 0 hA (al_A wd_3_228) rfl rfl rfl (hA _ wd_1_1) (hA _ wd_3_225) (by decide +kernel) ⟨Nat.le_of_ble_eq_true rfl, Nat.le_of_ble_eq_true rfl⟩, hA _ wd_3_226, hA _ wd_3_227⟩ ⟨bl, recv_X8 hE hG t_q1, fun U hU9 hW9 => ⟨rfl, by rw [hU9]; exact hG, hE.go hS hU9 hW9⟩⟩ rfl rfl hl.1 rfl (lv_room (Nat.le_of_ble_eq_true rfl)) dL_law_794 ⟨(Nat.le_trans (show kc + 0 ≤ 300000 by omega) (Nat.le_of_ble_eq_true rfl)), (Nat.le_trans (show ks + 0 ≤ 300000 by omega) (Nat.le_of_ble_eq_true rfl))⟩) hS (fun x873 u871 H locs w872 hG hS => ?_)
  obtain ⟨hf877, w872, hq874, hq875, hq876⟩ := w872
  replace w872 := HD.mk w872
  replace hq874 := HD.mk hq874
  replace hq875 := HD.mk hq875
  replace hq876 := HD.mk hq876
  have hw878 : ∀ c, c ∉ ([4, 5, 44, 45, 65] : List Nat) → u871 c = g c := fun c hc => funext fun j => hf877 c j (fun q => hc (by rw [q]; decide)) (fun q => hc (by rw [q]; decide)) (fun q => hc (by rw [q]; decide)) (fun q => hc (by rw [q]; decide)) (fun q => hc (by rw [q]; decide))
  have hb879 : Bd Γ u871 := Bd_e hBd (hw878 33 (by decide)) (hw878 34 (by decide)) (hw878 35 (by decide))
  have hj880 : IJ u871 := IJ_e hIJ (hw878 126 (by decide)) (hw878 132 (by decide)) (hw878 134 (by decide))
  refine lv_pop hx hb dL_law_797 rfl ?_
  refine lv_aload_n hx hb dL_law_798 rfl (lv_at hl 2 rfl) ?_
  refine cI (va_runV (C := RX9) (As := []) (rest := []) ⟨hx, hb, hml, hown, hA⟩ (k_X9_year l dC dI dA sz X Γ hU u871 q13 t_q13   (RM_126 hRL (hw878 126 (by decide))) (hj880) (RM_111 hRL hy4 hi0.2 (hw878 111 (by decide)))) ⟨callB_of 0 hA (al_A wd_5_201) rfl rfl rfl (hA _ wd_1_7) (hA _ wd_5_198) (by decide +kernel) ⟨Nat.le_of_ble_eq_true rfl, Nat.le_of_ble_eq_true rfl⟩, hA _ wd_5_199, hA _ wd_5_200⟩ ⟨bl, recv_X9 hE hG t_q13, fun U hU9 hW9 => ⟨rfl, by rw [hU9]; exact hG, hE.go hS hU9 hW9⟩⟩ rfl rfl hl.1 rfl (lv_room (Nat.le_of_ble_eq_true rfl)) dL_law_799 ⟨(Nat.le_trans (show kc + 0 ≤ 300000 by omega) (Nat.le_of_ble_eq_true rfl)), (Nat.le_trans (show ks + 0 ≤ 300000 by omega) (Nat.le_of_ble_eq_true rfl))⟩) hS (fun x883 u881 H locs w882 hG hS => ?_)
  obtain ⟨hf887, w882, hq884, hq885, hq886⟩ := w882
  replace w882 := HD.mk w882
  replace hq885 := HD.mk hq885
  replace hq886 := HD.mk hq886
  have hw888 : ∀ c, c ∉ ([100, 110, 111, 112, 132] : List Nat) → u881 c = u871 c := fun c hc => funext fun j => hf887 c j (fun q => hc (by rw [q]; decide)) (fun q => hc (by rw [q]; decide)) (fun q => hc (by rw [q]; decide)) (fun q => hc (by rw [q]; decide)) (fun q => hc (by rw [q]; decide))
  have hst889 := st_year (g := g) (u1 := u871) (u2 := u881) (r1 := x873) (r2 := x883) hRL hw878 hw888 w872.v.1 w872.v.2.1 w872.v.2.2 hq874.v hq875.v hq876.v w882.v.1 w882.v.2.1 w882.v.2.2 hq885.v hq886.v
  have hrr890 := hst889.2
  refine lv_pop hx hb dL_law_802 rfl ?_
  refine lv_goto (tgt := 1047) hx hb dL_law_803 (by decide) ?_
  obtain ⟨x891, h892⟩ : ∃ y : Int32, y = i + Int32.ofInt (6) := ⟨_, rfl⟩
  try have h893 : x891.toInt = i.toInt + (6) := ty_inc h892 (by decide) (by omega) (by omega)
  refine lv_iinc (v := x891) (lv' := [(4, .int x891), (3, .ref q29), (2, .ref q13), (1, .ref q1), (0, .ref b)]) hx hb dL_law_1047 hl (k := 0) rfl h892.symm (by decide) rfl (fun ls hl => ?_)
  refine lv_goto (tgt := 23) hx hb dL_law_1050 (by decide) ?_
  exact ih x891 Γ u881 (kc) (ks) _ _ ls (by omega) (by omega) (by have a9 := congrFun (hw888 4 (by decide)) 0; have b9 := w872.v.2.1; omega) hst889.1 hq884 (Bd_e hb879 (hw888 33 (by decide)) (hw888 34 (by decide)) (hw888 35 (by decide))) hU t_q1 t_q13 t_q29 (by omega) (by omega) hG hS (lv_sub hl [0, 1, 2, 3, 4] rfl)
set_option maxHeartbeats 40000000 in
set_option maxRecDepth 100000 in
/-- the law's case 18 -/
theorem law_c18 {p : Program} {e : Env} {s : State} {m : MethodId} {below : List Frame} {meth : Method} {c : Code} (l : Launch) (hl9 : l.stackTraces = false) {b L : Nat} {xs : Nat → Int32} (hLN : L ≤ 3072) (hx : p.tables.exec = Jvm.exec) (hb : c.code = code) (hr : meth.sig.returnType = ret) (hml : c.maxLocals = 7) (hown : s.vm.findClass R_law = some m.cls) (hA : ∀ w ∈ AL, w.before #[Value.ref b] s = true) (hXs : va_X b L xs s s.heap) (hbl : b < s.heap.size) (hlocks : meth.locks = false) {dC : Nat → ClassId} {dI : Nat → Nat → Nat} {dA : Nat → ClassId} {sz : Nat} (hE : en dC dI dA sz s) (hsz : sz = s.heap.size) (hbA : ¬ ty_A sz b) (X : va_W) (q1 q13 q29 : Nat) (n : Nat) (ih : LJ p l e s m below meth c b dC dI dA sz X q1 q13 q29 n) (i : Int32) (Γ : ty_G) (g : gh) (kc ks : Nat) (H : Heap) (locs : List Loc) (ls : Array Slot) (hm : (3073 - i.toInt : Int) < (n + 1 : Nat)) (hi0 : 0 ≤ i.toInt ∧ i.toInt ≤ 3072) (hy4 : g 4 0 ≤ i.toInt) (hRL : RLA g) (hIJ : IJ g) (hBd : Bd Γ g) (hU : Un Γ) (t_q1 : ty Γ q1 1) (t_q13 : ty Γ q13 30) (t_q29 : ty Γ q29 25) (hkc : kc ≤ 300 + i.toInt.toNat) (hks : ks ≤ 30000 + 28 * i.toInt.toNat) (hG : ty_ok (dC, dI) vwCl Γ (TP dA Γ g) sz X H) (hS : va_S (ty_A sz) s.heap H locs) (hl : lv_has ls 7 [(4, .int i), (3, .ref q29), (2, .ref q13), (1, .ref q1), (0, .ref b)]) (hiL : i.toInt + 6 ≤ (L : Int)) : W p l e room_1 s m #[Value.ref b] below meth c H locs kc ks (lw_Z below #[Value.ref b] s) (F0 m 806 ls []) := by
  refine lv_aload_n hx hb dL_law_806 rfl (lv_at hl 3 rfl) ?_
  refine lv_aload_n hx hb dL_law_807 rfl (lv_at hl 4 rfl) ?_
  refine lv_iload hx hb dL_law_808 (lv_at hl 0 rfl) ?_
  refine ty_iconst hx hb (1) dL_law_810 (by decide) (fun x894 h895 => ?_)
  refine ty_iadd hx hb dL_law_811 (fun x896 h897 => ?_)
  have h898 := lw_ix (k := 1) h895 h897 hi0 hiL hLN (by decide)
  refine va_sld hx hb hXs hbl hbA hS (i := x896) (ty_ix h898.2) dL_law_812 ?_
  refine W.eq (g2 := F0 m 813 ls [.int (xs (i.toInt.toNat + 1)), .ref q1]) (by rw [lw_xs (xs := xs) h898.1 hi0.1]) ?_
  clear h898 h897 h895
  refine lv_topi (fun x899 s900 => ?_)
  refine lv_aload_n hx hb dL_law_813 rfl (lv_at hl 4 rfl) ?_
  refine lv_iload hx hb dL_law_814 (lv_at hl 0 rfl) ?_
  refine ty_iconst hx hb (2) dL_law_816 (by decide) (fun x901 h902 => ?_)
  refine ty_iadd hx hb dL_law_817 (fun x903 h904 => ?_)
  have h905 := lw_ix (k := 2) h902 h904 hi0 hiL hLN (by decide)
  refine va_sld hx hb hXs hbl hbA hS (i := x903) (ty_ix h905.2) dL_law_818 ?_
  refine W.eq (g2 := F0 m 819 ls [.int (xs (i.toInt.toNat + 2)), .int x899, .ref q1]) (by rw [lw_xs (xs := xs) h905.1 hi0.1]) ?_
  clear h905 h904 h902
  refine lv_topi (fun x906 s907 => ?_)
  refine lv_aload_n hx hb dL_law_819 rfl (lv_at hl 4 rfl) ?_
  refine lv_iload hx hb dL_law_820 (lv_at hl 0 rfl) ?_
  refine ty_iconst hx hb (3) dL_law_822 (by decide) (fun x908 h909 => ?_)
  refine ty_iadd hx hb dL_law_823 (fun x910 h911 => ?_)
  have h912 := lw_ix (k := 3) h909 h911 hi0 hiL hLN (by decide)
  refine va_sld hx hb hXs hbl hbA hS (i := x910) (ty_ix h912.2) dL_law_824 ?_
  refine W.eq (g2 := F0 m 825 ls [.int (xs (i.toInt.toNat + 3)), .int x906, .int x899, .ref q1]) (by rw [lw_xs (xs := xs) h912.1 hi0.1]) ?_
  clear h912 h911 h909
  refine lv_topi (fun x913 s914 => ?_)
  refine ty_if_eq (tgt := 832) hx hb dL_law_825 (by decide) (fun c915 => ?_) (fun c915 => ?_)
  · skip
    refine ty_iconst hx hb (0) dL_law_832 (by decide) (fun x916 h917 => ?_)
    refine cI (va_runV (C := RX8) (As := [.int x899, .int x906, .int x916]) (rest := []) ⟨hx, hb, hml, hown, hA⟩ (k_X8_dies l dC dI dA sz X Γ hU g q1 t_q1 x899 x906 x916   (RL_1 hRL) (RL_2 hRL) (RL_3 hRL) (RL_ow hRL)) ⟨callB_of 3 hA (al_A wd_3_236) rfl rfl rfl (hA _ wd_1_1) (hA _ wd_3_233) (by decide +kernel) ⟨Nat.le_of_ble_eq_true rfl, Nat.le_of_ble_eq_true rfl⟩, hA _ wd_3_234, hA _ wd_3_235⟩ ⟨bl, recv_X8 hE hG t_q1, fun U hU9 hW9 => ⟨rfl, by rw [hU9]; exact hG, hE.go hS hU9 hW9⟩⟩ rfl rfl hl.1 rfl (lv_room (Nat.le_of_ble_eq_true rfl)) dL_law_833 ⟨(Nat.le_trans (show kc + 0 ≤ 300000 by omega) (Nat.le_of_ble_eq_true rfl)), (Nat.le_trans (show ks + 0 ≤ 300000 by omega) (Nat.le_of_ble_eq_true rfl))⟩) hS (fun x920 u918 H locs w919 hG hS => ?_)
    obtain ⟨hf923, hq921, hq922⟩ := w919
    replace hq921 := HD.mk hq921
    replace hq922 := HD.mk hq922
    have hw924 : ∀ c, c ∉ ([43, 51, 53, 54, 56, 65] : List Nat) → u918 c = g c := fun c hc => funext fun j => hf923 c j (fun q => hc (by rw [q]; decide)) (fun q => hc (by rw [q]; decide)) (fun q => hc (by rw [q]; decide)) (fun q => hc (by rw [q]; decide)) (fun q => hc (by rw [q]; decide)) (fun q => hc (by rw [q]; decide))
    have hb925 : Bd Γ u918 := Bd_e hBd (hw924 33 (by decide)) (hw924 34 (by decide)) (hw924 35 (by decide))
    have hj926 : IJ u918 := IJ_e hIJ (hw924 126 (by decide)) (hw924 132 (by decide)) (hw924 134 (by decide))
    refine lv_pop hx hb dL_law_836 rfl ?_
    refine lv_aload_n hx hb dL_law_837 rfl (lv_at hl 2 rfl) ?_
    refine lv_aload_n hx hb dL_law_838 rfl (lv_at hl 4 rfl) ?_
    refine lv_iload hx hb dL_law_839 (lv_at hl 0 rfl) ?_
    refine ty_iconst hx hb (1) dL_law_841 (by decide) (fun x927 h928 => ?_)
    refine ty_iadd hx hb dL_law_842 (fun x929 h930 => ?_)
    have h931 := lw_ix (k := 1) h928 h930 hi0 hiL hLN (by decide)
    refine va_sld hx hb hXs hbl hbA hS (i := x929) (ty_ix h931.2) dL_law_843 ?_
    refine W.eq (g2 := F0 m 844 ls [.int (xs (i.toInt.toNat + 1)), .ref q13]) (by rw [lw_xs (xs := xs) h931.1 hi0.1]) ?_
    clear h931 h930 h928
    refine W.eq (g2 := F0 m 844 ls [.int x899, .ref q13]) (by rw [s900]) ?_
    refine lv_aload_n hx hb dL_law_844 rfl (lv_at hl 4 rfl) ?_
    refine lv_iload hx hb dL_law_845 (lv_at hl 0 rfl) ?_
    refine ty_iconst hx hb (2) dL_law_847 (by decide) (fun x932 h933 => ?_)
    refine ty_iadd hx hb dL_law_848 (fun x934 h935 => ?_)
    have h936 := lw_ix (k := 2) h933 h935 hi0 hiL hLN (by decide)
    refine va_sld hx hb hXs hbl hbA hS (i := x934) (ty_ix h936.2) dL_law_849 ?_
    refine W.eq (g2 := F0 m 850 ls [.int (xs (i.toInt.toNat + 2)), .int x899, .ref q13]) (by rw [lw_xs (xs := xs) h936.1 hi0.1]) ?_
    clear h936 h935 h933
    refine W.eq (g2 := F0 m 850 ls [.int x906, .int x899, .ref q13]) (by rw [s907]) ?_
    refine lv_aload_n hx hb dL_law_850 rfl (lv_at hl 4 rfl) ?_
    refine lv_iload hx hb dL_law_851 (lv_at hl 0 rfl) ?_
    refine ty_iconst hx hb (3) dL_law_853 (by decide) (fun x937 h938 => ?_)
    refine ty_iadd hx hb dL_law_854 (fun x939 h940 => ?_)
    have h941 := lw_ix (k := 3) h938 h940 hi0 hiL hLN (by decide)
    refine va_sld hx hb hXs hbl hbA hS (i := x939) (ty_ix h941.2) dL_law_855 ?_
    refine W.eq (g2 := F0 m 856 ls [.int (xs (i.toInt.toNat + 3)), .int x906, .int x899, .ref q13]) (by rw [lw_xs (xs := xs) h941.1 hi0.1]) ?_
    clear h941 h940 h938
    refine W.eq (g2 := F0 m 856 ls [.int x913, .int x906, .int x899, .ref q13]) (by rw [s914]) ?_
    refine ty_if_eq (tgt := 863) hx hb dL_law_856 (by decide) (fun c942 => ?_) (fun c942 => ?_)
    · skip
      refine ty_iconst hx hb (0) dL_law_863 (by decide) (fun x943 h944 => ?_)
      have ha945 : x943 = x916 := ty_eq32.mpr (by omega)
      refine cI (va_runV (C := RX9) (As := [.int x899, .int x906, .int x943]) (rest := []) ⟨hx, hb, hml, hown, hA⟩ (k_X9_dies l dC dI dA sz X Γ hU u918 q13 t_q13 x899 x906 x943   (RM_104 hRL (hw924 104 (by decide))) (RM_126 hRL (hw924 126 (by decide))) (RM_122 hRL (hw924 122 (by decide))) (hj926)) ⟨callB_of 3 hA (al_A wd_5_205) rfl rfl rfl (hA _ wd_1_7) (hA _ wd_5_202) (by decide +kernel) ⟨Nat.le_of_ble_eq_true rfl, Nat.le_of_ble_eq_true rfl⟩, hA _ wd_5_203, hA _ wd_5_204⟩ ⟨bl, recv_X9 hE hG t_q13, fun U hU9 hW9 => ⟨rfl, by rw [hU9]; exact hG, hE.go hS hU9 hW9⟩⟩ rfl rfl hl.1 rfl (lv_room (Nat.le_of_ble_eq_true rfl)) dL_law_864 ⟨(Nat.le_trans (show kc + 0 ≤ 300000 by omega) (Nat.le_of_ble_eq_true rfl)), (Nat.le_trans (show ks + 0 ≤ 300000 by omega) (Nat.le_of_ble_eq_true rfl))⟩) hS (fun x948 u946 H locs w947 hG hS => ?_)
      obtain ⟨hf951, hq949, hq950⟩ := w947
      try rw [ha945] at hq950
      replace hq950 := HD.mk hq950
      have hw952 : ∀ c, c ∉ ([100, 106, 108, 109, 132, 135] : List Nat) → u946 c = u918 c := fun c hc => funext fun j => hf951 c j (fun q => hc (by rw [q]; decide)) (fun q => hc (by rw [q]; decide)) (fun q => hc (by rw [q]; decide)) (fun q => hc (by rw [q]; decide)) (fun q => hc (by rw [q]; decide)) (fun q => hc (by rw [q]; decide))
      have hst953 := st_dies (g := g) (u1 := u918) (u2 := u946) (r1 := x920) (r2 := x948) hRL hw924 hw952 hq921.v hq922.v hq950.v
      have hrr954 := hst953.2
      refine lv_pop hx hb dL_law_867 rfl ?_
      refine lv_goto (tgt := 1047) hx hb dL_law_868 (by decide) ?_
      obtain ⟨x955, h956⟩ : ∃ y : Int32, y = i + Int32.ofInt (6) := ⟨_, rfl⟩
      try have h957 : x955.toInt = i.toInt + (6) := ty_inc h956 (by decide) (by omega) (by omega)
      refine lv_iinc (v := x955) (lv' := [(4, .int x955), (3, .ref q29), (2, .ref q13), (1, .ref q1), (0, .ref b)]) hx hb dL_law_1047 hl (k := 0) rfl h956.symm (by decide) rfl (fun ls hl => ?_)
      refine lv_goto (tgt := 23) hx hb dL_law_1050 (by decide) ?_
      exact ih x955 Γ u946 (kc) (ks) _ _ ls (by omega) (by omega) (by have a9 := congrFun (hw952 4 (by decide)) 0; have b9 := congrFun (hw924 4 (by decide)) 0; omega) hst953.1 hq949 (Bd_e hb925 (hw952 33 (by decide)) (hw952 34 (by decide)) (hw952 35 (by decide))) hU t_q1 t_q13 t_q29 (by omega) (by omega) hG hS (lv_sub hl [0, 1, 2, 3, 4] rfl)
    · exfalso; omega
  · skip
    refine ty_iconst hx hb (1) dL_law_828 (by decide) (fun x958 h959 => ?_)
    refine lv_goto (tgt := 833) hx hb dL_law_829 (by decide) ?_
    refine cI (va_runV (C := RX8) (As := [.int x899, .int x906, .int x958]) (rest := []) ⟨hx, hb, hml, hown, hA⟩ (k_X8_dies l dC dI dA sz X Γ hU g q1 t_q1 x899 x906 x958   (RL_1 hRL) (RL_2 hRL) (RL_3 hRL) (RL_ow hRL)) ⟨callB_of 3 hA (al_A wd_3_236) rfl rfl rfl (hA _ wd_1_1) (hA _ wd_3_233) (by decide +kernel) ⟨Nat.le_of_ble_eq_true rfl, Nat.le_of_ble_eq_true rfl⟩, hA _ wd_3_234, hA _ wd_3_235⟩ ⟨bl, recv_X8 hE hG t_q1, fun U hU9 hW9 => ⟨rfl, by rw [hU9]; exact hG, hE.go hS hU9 hW9⟩⟩ rfl rfl hl.1 rfl (lv_room (Nat.le_of_ble_eq_true rfl)) dL_law_833 ⟨(Nat.le_trans (show kc + 0 ≤ 300000 by omega) (Nat.le_of_ble_eq_true rfl)), (Nat.le_trans (show ks + 0 ≤ 300000 by omega) (Nat.le_of_ble_eq_true rfl))⟩) hS (fun x962 u960 H locs w961 hG hS => ?_)
    obtain ⟨hf965, hq963, hq964⟩ := w961
    replace hq963 := HD.mk hq963
    replace hq964 := HD.mk hq964
    have hw966 : ∀ c, c ∉ ([43, 51, 53, 54, 56, 65] : List Nat) → u960 c = g c := fun c hc => funext fun j => hf965 c j (fun q => hc (by rw [q]; decide)) (fun q => hc (by rw [q]; decide)) (fun q => hc (by rw [q]; decide)) (fun q => hc (by rw [q]; decide)) (fun q => hc (by rw [q]; decide)) (fun q => hc (by rw [q]; decide))
    have hb967 : Bd Γ u960 := Bd_e hBd (hw966 33 (by decide)) (hw966 34 (by decide)) (hw966 35 (by decide))
    have hj968 : IJ u960 := IJ_e hIJ (hw966 126 (by decide)) (hw966 132 (by decide)) (hw966 134 (by decide))
    refine lv_pop hx hb dL_law_836 rfl ?_
    refine lv_aload_n hx hb dL_law_837 rfl (lv_at hl 2 rfl) ?_
    refine lv_aload_n hx hb dL_law_838 rfl (lv_at hl 4 rfl) ?_
    refine lv_iload hx hb dL_law_839 (lv_at hl 0 rfl) ?_
    refine ty_iconst hx hb (1) dL_law_841 (by decide) (fun x969 h970 => ?_)
    refine ty_iadd hx hb dL_law_842 (fun x971 h972 => ?_)
    have h973 := lw_ix (k := 1) h970 h972 hi0 hiL hLN (by decide)
    refine va_sld hx hb hXs hbl hbA hS (i := x971) (ty_ix h973.2) dL_law_843 ?_
    refine W.eq (g2 := F0 m 844 ls [.int (xs (i.toInt.toNat + 1)), .ref q13]) (by rw [lw_xs (xs := xs) h973.1 hi0.1]) ?_
    clear h973 h972 h970
    refine W.eq (g2 := F0 m 844 ls [.int x899, .ref q13]) (by rw [s900]) ?_
    refine lv_aload_n hx hb dL_law_844 rfl (lv_at hl 4 rfl) ?_
    refine lv_iload hx hb dL_law_845 (lv_at hl 0 rfl) ?_
    refine ty_iconst hx hb (2) dL_law_847 (by decide) (fun x974 h975 => ?_)
    refine ty_iadd hx hb dL_law_848 (fun x976 h977 => ?_)
    have h978 := lw_ix (k := 2) h975 h977 hi0 hiL hLN (by decide)
    refine va_sld hx hb hXs hbl hbA hS (i := x976) (ty_ix h978.2) dL_law_849 ?_
    refine W.eq (g2 := F0 m 850 ls [.int (xs (i.toInt.toNat + 2)), .int x899, .ref q13]) (by rw [lw_xs (xs := xs) h978.1 hi0.1]) ?_
    clear h978 h977 h975
    refine W.eq (g2 := F0 m 850 ls [.int x906, .int x899, .ref q13]) (by rw [s907]) ?_
    refine lv_aload_n hx hb dL_law_850 rfl (lv_at hl 4 rfl) ?_
    refine lv_iload hx hb dL_law_851 (lv_at hl 0 rfl) ?_
    refine ty_iconst hx hb (3) dL_law_853 (by decide) (fun x979 h980 => ?_)
    refine ty_iadd hx hb dL_law_854 (fun x981 h982 => ?_)
    have h983 := lw_ix (k := 3) h980 h982 hi0 hiL hLN (by decide)
    refine va_sld hx hb hXs hbl hbA hS (i := x981) (ty_ix h983.2) dL_law_855 ?_
    refine W.eq (g2 := F0 m 856 ls [.int (xs (i.toInt.toNat + 3)), .int x906, .int x899, .ref q13]) (by rw [lw_xs (xs := xs) h983.1 hi0.1]) ?_
    clear h983 h982 h980
    refine W.eq (g2 := F0 m 856 ls [.int x913, .int x906, .int x899, .ref q13]) (by rw [s914]) ?_
    refine ty_if_eq (tgt := 863) hx hb dL_law_856 (by decide) (fun c984 => ?_) (fun c984 => ?_)
    · skip
      refine ty_iconst hx hb (0) dL_law_863 (by decide) (fun x985 h986 => ?_)
      exfalso; omega
    · skip
      refine ty_iconst hx hb (1) dL_law_859 (by decide) (fun x987 h988 => ?_)
      refine lv_goto (tgt := 864) hx hb dL_law_860 (by decide) ?_
      have ha989 : x987 = x958 := ty_eq32.mpr (by omega)
      refine cI (va_runV (C := RX9) (As := [.int x899, .int x906, .int x987]) (rest := []) ⟨hx, hb, hml, hown, hA⟩ (k_X9_dies l dC dI dA sz X Γ hU u960 q13 t_q13 x899 x906 x987   (RM_104 hRL (hw966 104 (by decide))) (RM_126 hRL (hw966 126 (by decide))) (RM_122 hRL (hw966 122 (by decide))) (hj968)) ⟨callB_of 3 hA (al_A wd_5_205) rfl rfl rfl (hA _ wd_1_7) (hA _ wd_5_202) (by decide +kernel) ⟨Nat.le_of_ble_eq_true rfl, Nat.le_of_ble_eq_true rfl⟩, hA _ wd_5_203, hA _ wd_5_204⟩ ⟨bl, recv_X9 hE hG t_q13, fun U hU9 hW9 => ⟨rfl, by rw [hU9]; exact hG, hE.go hS hU9 hW9⟩⟩ rfl rfl hl.1 rfl (lv_room (Nat.le_of_ble_eq_true rfl)) dL_law_864 ⟨(Nat.le_trans (show kc + 0 ≤ 300000 by omega) (Nat.le_of_ble_eq_true rfl)), (Nat.le_trans (show ks + 0 ≤ 300000 by omega) (Nat.le_of_ble_eq_true rfl))⟩) hS (fun x992 u990 H locs w991 hG hS => ?_)
      obtain ⟨hf995, hq993, hq994⟩ := w991
      try rw [ha989] at hq994
      replace hq994 := HD.mk hq994
      have hw996 : ∀ c, c ∉ ([100, 106, 108, 109, 132, 135] : List Nat) → u990 c = u960 c := fun c hc => funext fun j => hf995 c j (fun q => hc (by rw [q]; decide)) (fun q => hc (by rw [q]; decide)) (fun q => hc (by rw [q]; decide)) (fun q => hc (by rw [q]; decide)) (fun q => hc (by rw [q]; decide)) (fun q => hc (by rw [q]; decide))
      have hst997 := st_dies (g := g) (u1 := u960) (u2 := u990) (r1 := x962) (r2 := x992) hRL hw966 hw996 hq963.v hq964.v hq994.v
      have hrr998 := hst997.2
      refine lv_pop hx hb dL_law_867 rfl ?_
      refine lv_goto (tgt := 1047) hx hb dL_law_868 (by decide) ?_
      obtain ⟨x999, h1000⟩ : ∃ y : Int32, y = i + Int32.ofInt (6) := ⟨_, rfl⟩
      try have h1001 : x999.toInt = i.toInt + (6) := ty_inc h1000 (by decide) (by omega) (by omega)
      refine lv_iinc (v := x999) (lv' := [(4, .int x999), (3, .ref q29), (2, .ref q13), (1, .ref q1), (0, .ref b)]) hx hb dL_law_1047 hl (k := 0) rfl h1000.symm (by decide) rfl (fun ls hl => ?_)
      refine lv_goto (tgt := 23) hx hb dL_law_1050 (by decide) ?_
      exact ih x999 Γ u990 (kc) (ks) _ _ ls (by omega) (by omega) (by have a9 := congrFun (hw996 4 (by decide)) 0; have b9 := congrFun (hw966 4 (by decide)) 0; omega) hst997.1 hq993 (Bd_e hb967 (hw996 33 (by decide)) (hw996 34 (by decide)) (hw996 35 (by decide))) hU t_q1 t_q13 t_q29 (by omega) (by omega) hG hS (lv_sub hl [0, 1, 2, 3, 4] rfl)
set_option maxHeartbeats 40000000 in
set_option maxRecDepth 100000 in
/-- the law's case 19 -/
theorem law_c19 {p : Program} {e : Env} {s : State} {m : MethodId} {below : List Frame} {meth : Method} {c : Code} (l : Launch) (hl9 : l.stackTraces = false) {b L : Nat} {xs : Nat → Int32} (hLN : L ≤ 3072) (hx : p.tables.exec = Jvm.exec) (hb : c.code = code) (hr : meth.sig.returnType = ret) (hml : c.maxLocals = 7) (hown : s.vm.findClass R_law = some m.cls) (hA : ∀ w ∈ AL, w.before #[Value.ref b] s = true) (hXs : va_X b L xs s s.heap) (hbl : b < s.heap.size) (hlocks : meth.locks = false) {dC : Nat → ClassId} {dI : Nat → Nat → Nat} {dA : Nat → ClassId} {sz : Nat} (hE : en dC dI dA sz s) (hsz : sz = s.heap.size) (hbA : ¬ ty_A sz b) (X : va_W) (q1 q13 q29 : Nat) (n : Nat) (ih : LJ p l e s m below meth c b dC dI dA sz X q1 q13 q29 n) (i : Int32) (Γ : ty_G) (g : gh) (kc ks : Nat) (H : Heap) (locs : List Loc) (ls : Array Slot) (hm : (3073 - i.toInt : Int) < (n + 1 : Nat)) (hi0 : 0 ≤ i.toInt ∧ i.toInt ≤ 3072) (hy4 : g 4 0 ≤ i.toInt) (hRL : RLA g) (hIJ : IJ g) (hBd : Bd Γ g) (hU : Un Γ) (t_q1 : ty Γ q1 1) (t_q13 : ty Γ q13 30) (t_q29 : ty Γ q29 25) (hkc : kc ≤ 300 + i.toInt.toNat) (hks : ks ≤ 30000 + 28 * i.toInt.toNat) (hG : ty_ok (dC, dI) vwCl Γ (TP dA Γ g) sz X H) (hS : va_S (ty_A sz) s.heap H locs) (hl : lv_has ls 7 [(4, .int i), (3, .ref q29), (2, .ref q13), (1, .ref q1), (0, .ref b)]) (hiL : i.toInt + 6 ≤ (L : Int)) : W p l e room_1 s m #[Value.ref b] below meth c H locs kc ks (lw_Z below #[Value.ref b] s) (F0 m 871 ls []) := by
  refine lv_aload_n hx hb dL_law_871 rfl (lv_at hl 3 rfl) ?_
  refine lv_aload_n hx hb dL_law_872 rfl (lv_at hl 4 rfl) ?_
  refine lv_iload hx hb dL_law_873 (lv_at hl 0 rfl) ?_
  refine ty_iconst hx hb (1) dL_law_875 (by decide) (fun x1002 h1003 => ?_)
  refine ty_iadd hx hb dL_law_876 (fun x1004 h1005 => ?_)
  have h1006 := lw_ix (k := 1) h1003 h1005 hi0 hiL hLN (by decide)
  refine va_sld hx hb hXs hbl hbA hS (i := x1004) (ty_ix h1006.2) dL_law_877 ?_
  refine W.eq (g2 := F0 m 878 ls [.int (xs (i.toInt.toNat + 1)), .ref q1]) (by rw [lw_xs (xs := xs) h1006.1 hi0.1]) ?_
  clear h1006 h1005 h1003
  refine lv_topi (fun x1007 s1008 => ?_)
  refine lv_aload_n hx hb dL_law_878 rfl (lv_at hl 4 rfl) ?_
  refine lv_iload hx hb dL_law_879 (lv_at hl 0 rfl) ?_
  refine ty_iconst hx hb (2) dL_law_881 (by decide) (fun x1009 h1010 => ?_)
  refine ty_iadd hx hb dL_law_882 (fun x1011 h1012 => ?_)
  have h1013 := lw_ix (k := 2) h1010 h1012 hi0 hiL hLN (by decide)
  refine va_sld hx hb hXs hbl hbA hS (i := x1011) (ty_ix h1013.2) dL_law_883 ?_
  refine W.eq (g2 := F0 m 884 ls [.int (xs (i.toInt.toNat + 2)), .int x1007, .ref q1]) (by rw [lw_xs (xs := xs) h1013.1 hi0.1]) ?_
  clear h1013 h1012 h1010
  refine lv_topi (fun x1014 s1015 => ?_)
  refine cI (va_runV (C := RX8) (As := [.int x1007, .int x1014]) (rest := []) ⟨hx, hb, hml, hown, hA⟩ (k_X8_fees l dC dI dA sz X Γ hU g q1 t_q1 x1007 x1014   (RL_2 hRL)) ⟨callB_of 2 hA (al_A wd_4_4) rfl rfl rfl (hA _ wd_1_1) (hA _ wd_4_1) (by decide +kernel) ⟨Nat.le_of_ble_eq_true rfl, Nat.le_of_ble_eq_true rfl⟩, hA _ wd_4_2, hA _ wd_4_3⟩ ⟨bl, recv_X8 hE hG t_q1, fun U hU9 hW9 => ⟨rfl, by rw [hU9]; exact hG, hE.go hS hU9 hW9⟩⟩ rfl rfl hl.1 rfl (lv_room (Nat.le_of_ble_eq_true rfl)) dL_law_884 ⟨(Nat.le_trans (show kc + 0 ≤ 300000 by omega) (Nat.le_of_ble_eq_true rfl)), (Nat.le_trans (show ks + 0 ≤ 300000 by omega) (Nat.le_of_ble_eq_true rfl))⟩) hS (fun x1018 u1016 H locs w1017 hG hS => ?_)
  have hf1019 := w1017
  have hw1020 : ∀ c, c ∉ ([30, 31, 32] : List Nat) → u1016 c = g c := fun c hc => funext fun j => hf1019 c j (fun q => hc (by rw [q]; decide)) (fun q => hc (by rw [q]; decide)) (fun q => hc (by rw [q]; decide))
  have hb1021 : Bd Γ u1016 := Bd_e hBd (hw1020 33 (by decide)) (hw1020 34 (by decide)) (hw1020 35 (by decide))
  have hj1022 : IJ u1016 := IJ_e hIJ (hw1020 126 (by decide)) (hw1020 132 (by decide)) (hw1020 134 (by decide))
  refine lv_pop hx hb dL_law_887 rfl ?_
  refine lv_aload_n hx hb dL_law_888 rfl (lv_at hl 2 rfl) ?_
  refine lv_aload_n hx hb dL_law_889 rfl (lv_at hl 4 rfl) ?_
  refine lv_iload hx hb dL_law_890 (lv_at hl 0 rfl) ?_
  refine ty_iconst hx hb (1) dL_law_892 (by decide) (fun x1023 h1024 => ?_)
  refine ty_iadd hx hb dL_law_893 (fun x1025 h1026 => ?_)
  have h1027 := lw_ix (k := 1) h1024 h1026 hi0 hiL hLN (by decide)
  refine va_sld hx hb hXs hbl hbA hS (i := x1025) (ty_ix h1027.2) dL_law_894 ?_
  refine W.eq (g2 := F0 m 895 ls [.int (xs (i.toInt.toNat + 1)), .ref q13]) (by rw [lw_xs (xs := xs) h1027.1 hi0.1]) ?_
  clear h1027 h1026 h1024
  refine W.eq (g2 := F0 m 895 ls [.int x1007, .ref q13]) (by rw [s1008]) ?_
  refine lv_aload_n hx hb dL_law_895 rfl (lv_at hl 4 rfl) ?_
  refine lv_iload hx hb dL_law_896 (lv_at hl 0 rfl) ?_
  refine ty_iconst hx hb (2) dL_law_898 (by decide) (fun x1028 h1029 => ?_)
  refine ty_iadd hx hb dL_law_899 (fun x1030 h1031 => ?_)
  have h1032 := lw_ix (k := 2) h1029 h1031 hi0 hiL hLN (by decide)
  refine va_sld hx hb hXs hbl hbA hS (i := x1030) (ty_ix h1032.2) dL_law_900 ?_
  refine W.eq (g2 := F0 m 901 ls [.int (xs (i.toInt.toNat + 2)), .int x1007, .ref q13]) (by rw [lw_xs (xs := xs) h1032.1 hi0.1]) ?_
  clear h1032 h1031 h1029
  refine W.eq (g2 := F0 m 901 ls [.int x1014, .int x1007, .ref q13]) (by rw [s1015]) ?_
  refine cI (va_runV (C := RX9) (As := [.int x1007, .int x1014]) (rest := []) ⟨hx, hb, hml, hown, hA⟩ (k_X9_fees l dC dI dA sz X Γ hU u1016 q13 t_q13 x1007 x1014   (RM_104 hRL (hw1020 104 (by decide)))) ⟨callB_of 2 hA (al_A wd_5_213) rfl rfl rfl (hA _ wd_1_7) (hA _ wd_5_210) (by decide +kernel) ⟨Nat.le_of_ble_eq_true rfl, Nat.le_of_ble_eq_true rfl⟩, hA _ wd_5_211, hA _ wd_5_212⟩ ⟨bl, recv_X9 hE hG t_q13, fun U hU9 hW9 => ⟨rfl, by rw [hU9]; exact hG, hE.go hS hU9 hW9⟩⟩ rfl rfl hl.1 rfl (lv_room (Nat.le_of_ble_eq_true rfl)) dL_law_901 ⟨(Nat.le_trans (show kc + 0 ≤ 300000 by omega) (Nat.le_of_ble_eq_true rfl)), (Nat.le_trans (show ks + 0 ≤ 300000 by omega) (Nat.le_of_ble_eq_true rfl))⟩) hS (fun x1035 u1033 H locs w1034 hG hS => ?_)
  have hf1036 := w1034
  have hw1037 : ∀ c, c ∉ ([100, 146] : List Nat) → u1033 c = u1016 c := fun c hc => funext fun j => hf1036 c j (fun q => hc (by rw [q]; decide)) (fun q => hc (by rw [q]; decide))
  have hst1038 := st_fees (p1 := x1007) (p2 := x1014) (r1 := x1018) (r2 := x1035) (g := g) (u1 := u1016) (u2 := u1033) hRL hw1020 hw1037
  refine lv_pop hx hb dL_law_904 rfl ?_
  refine lv_goto (tgt := 1047) hx hb dL_law_905 (by decide) ?_
  obtain ⟨x1039, h1040⟩ : ∃ y : Int32, y = i + Int32.ofInt (6) := ⟨_, rfl⟩
  try have h1041 : x1039.toInt = i.toInt + (6) := ty_inc h1040 (by decide) (by omega) (by omega)
  refine lv_iinc (v := x1039) (lv' := [(4, .int x1039), (3, .ref q29), (2, .ref q13), (1, .ref q1), (0, .ref b)]) hx hb dL_law_1047 hl (k := 0) rfl h1040.symm (by decide) rfl (fun ls hl => ?_)
  refine lv_goto (tgt := 23) hx hb dL_law_1050 (by decide) ?_
  exact ih x1039 Γ u1033 (kc) (ks) _ _ ls (by omega) (by omega) (by have a9 := congrFun (hw1037 4 (by decide)) 0; have b9 := congrFun (hw1020 4 (by decide)) 0; omega) hst1038 (IJ_e hj1022 (hw1037 126 (by decide)) (hw1037 132 (by decide)) (hw1037 134 (by decide))) (Bd_e hb1021 (hw1037 33 (by decide)) (hw1037 34 (by decide)) (hw1037 35 (by decide))) hU t_q1 t_q13 t_q29 (by omega) (by omega) hG hS (lv_sub hl [0, 1, 2, 3, 4] rfl)
set_option maxHeartbeats 40000000 in
set_option maxRecDepth 100000 in
/-- the law's case 20 -/
theorem law_c20 {p : Program} {e : Env} {s : State} {m : MethodId} {below : List Frame} {meth : Method} {c : Code} (l : Launch) (hl9 : l.stackTraces = false) {b L : Nat} {xs : Nat → Int32} (hLN : L ≤ 3072) (hx : p.tables.exec = Jvm.exec) (hb : c.code = code) (hr : meth.sig.returnType = ret) (hml : c.maxLocals = 7) (hown : s.vm.findClass R_law = some m.cls) (hA : ∀ w ∈ AL, w.before #[Value.ref b] s = true) (hXs : va_X b L xs s s.heap) (hbl : b < s.heap.size) (hlocks : meth.locks = false) {dC : Nat → ClassId} {dI : Nat → Nat → Nat} {dA : Nat → ClassId} {sz : Nat} (hE : en dC dI dA sz s) (hsz : sz = s.heap.size) (hbA : ¬ ty_A sz b) (X : va_W) (q1 q13 q29 : Nat) (n : Nat) (ih : LJ p l e s m below meth c b dC dI dA sz X q1 q13 q29 n) (i : Int32) (Γ : ty_G) (g : gh) (kc ks : Nat) (H : Heap) (locs : List Loc) (ls : Array Slot) (hm : (3073 - i.toInt : Int) < (n + 1 : Nat)) (hi0 : 0 ≤ i.toInt ∧ i.toInt ≤ 3072) (hy4 : g 4 0 ≤ i.toInt) (hRL : RLA g) (hIJ : IJ g) (hBd : Bd Γ g) (hU : Un Γ) (t_q1 : ty Γ q1 1) (t_q13 : ty Γ q13 30) (t_q29 : ty Γ q29 25) (hkc : kc ≤ 300 + i.toInt.toNat) (hks : ks ≤ 30000 + 28 * i.toInt.toNat) (hG : ty_ok (dC, dI) vwCl Γ (TP dA Γ g) sz X H) (hS : va_S (ty_A sz) s.heap H locs) (hl : lv_has ls 7 [(4, .int i), (3, .ref q29), (2, .ref q13), (1, .ref q1), (0, .ref b)]) (hiL : i.toInt + 6 ≤ (L : Int)) : W p l e room_1 s m #[Value.ref b] below meth c H locs kc ks (lw_Z below #[Value.ref b] s) (F0 m 908 ls []) := by
  refine lv_aload_n hx hb dL_law_908 rfl (lv_at hl 3 rfl) ?_
  refine lv_aload_n hx hb dL_law_909 rfl (lv_at hl 4 rfl) ?_
  refine lv_iload hx hb dL_law_910 (lv_at hl 0 rfl) ?_
  refine ty_iconst hx hb (1) dL_law_912 (by decide) (fun x1042 h1043 => ?_)
  refine ty_iadd hx hb dL_law_913 (fun x1044 h1045 => ?_)
  have h1046 := lw_ix (k := 1) h1043 h1045 hi0 hiL hLN (by decide)
  refine va_sld hx hb hXs hbl hbA hS (i := x1044) (ty_ix h1046.2) dL_law_914 ?_
  refine W.eq (g2 := F0 m 915 ls [.int (xs (i.toInt.toNat + 1)), .ref q1]) (by rw [lw_xs (xs := xs) h1046.1 hi0.1]) ?_
  clear h1046 h1045 h1043
  refine lv_topi (fun x1047 s1048 => ?_)
  refine lv_aload_n hx hb dL_law_915 rfl (lv_at hl 4 rfl) ?_
  refine lv_iload hx hb dL_law_916 (lv_at hl 0 rfl) ?_
  refine ty_iconst hx hb (2) dL_law_918 (by decide) (fun x1049 h1050 => ?_)
  refine ty_iadd hx hb dL_law_919 (fun x1051 h1052 => ?_)
  have h1053 := lw_ix (k := 2) h1050 h1052 hi0 hiL hLN (by decide)
  refine va_sld hx hb hXs hbl hbA hS (i := x1051) (ty_ix h1053.2) dL_law_920 ?_
  refine W.eq (g2 := F0 m 921 ls [.int (xs (i.toInt.toNat + 2)), .int x1047, .ref q1]) (by rw [lw_xs (xs := xs) h1053.1 hi0.1]) ?_
  clear h1053 h1052 h1050
  refine lv_topi (fun x1054 s1055 => ?_)
  refine cI (va_runV (C := RX8) (As := [.int x1047, .int x1054]) (rest := []) ⟨hx, hb, hml, hown, hA⟩ (k_X8_party l dC dI dA sz X Γ hU g q1 t_q1 x1047 x1054   (RL_1 hRL)) ⟨callB_of 2 hA (al_A wd_4_33) rfl rfl rfl (hA _ wd_1_1) (hA _ wd_4_30) (by decide +kernel) ⟨Nat.le_of_ble_eq_true rfl, Nat.le_of_ble_eq_true rfl⟩, hA _ wd_4_31, hA _ wd_4_32⟩ ⟨bl, recv_X8 hE hG t_q1, fun U hU9 hW9 => ⟨rfl, by rw [hU9]; exact hG, hE.go hS hU9 hW9⟩⟩ rfl rfl hl.1 rfl (lv_room (Nat.le_of_ble_eq_true rfl)) dL_law_921 ⟨(Nat.le_trans (show kc + 0 ≤ 300000 by omega) (Nat.le_of_ble_eq_true rfl)), (Nat.le_trans (show ks + 0 ≤ 300000 by omega) (Nat.le_of_ble_eq_true rfl))⟩) hS (fun x1058 u1056 H locs w1057 hG hS => ?_)
  obtain ⟨eu1059, w1057⟩ := w1057
  rw [eu1059] at hG
  replace w1057 := HD.mk w1057
  refine lv_pop hx hb dL_law_924 rfl ?_
  refine lv_aload_n hx hb dL_law_925 rfl (lv_at hl 2 rfl) ?_
  refine lv_aload_n hx hb dL_law_926 rfl (lv_at hl 4 rfl) ?_
  refine lv_iload hx hb dL_law_927 (lv_at hl 0 rfl) ?_
  refine ty_iconst hx hb (1) dL_law_929 (by decide) (fun x1060 h1061 => ?_)
  refine ty_iadd hx hb dL_law_930 (fun x1062 h1063 => ?_)
  have h1064 := lw_ix (k := 1) h1061 h1063 hi0 hiL hLN (by decide)
  refine va_sld hx hb hXs hbl hbA hS (i := x1062) (ty_ix h1064.2) dL_law_931 ?_
  refine W.eq (g2 := F0 m 932 ls [.int (xs (i.toInt.toNat + 1)), .ref q13]) (by rw [lw_xs (xs := xs) h1064.1 hi0.1]) ?_
  clear h1064 h1063 h1061
  refine W.eq (g2 := F0 m 932 ls [.int x1047, .ref q13]) (by rw [s1048]) ?_
  refine lv_aload_n hx hb dL_law_932 rfl (lv_at hl 4 rfl) ?_
  refine lv_iload hx hb dL_law_933 (lv_at hl 0 rfl) ?_
  refine ty_iconst hx hb (2) dL_law_935 (by decide) (fun x1065 h1066 => ?_)
  refine ty_iadd hx hb dL_law_936 (fun x1067 h1068 => ?_)
  have h1069 := lw_ix (k := 2) h1066 h1068 hi0 hiL hLN (by decide)
  refine va_sld hx hb hXs hbl hbA hS (i := x1067) (ty_ix h1069.2) dL_law_937 ?_
  refine W.eq (g2 := F0 m 938 ls [.int (xs (i.toInt.toNat + 2)), .int x1047, .ref q13]) (by rw [lw_xs (xs := xs) h1069.1 hi0.1]) ?_
  clear h1069 h1068 h1066
  refine W.eq (g2 := F0 m 938 ls [.int x1054, .int x1047, .ref q13]) (by rw [s1055]) ?_
  refine cI (va_runV (C := RX9) (As := [.int x1047, .int x1054]) (rest := []) ⟨hx, hb, hml, hown, hA⟩ (k_X9_party l dC dI dA sz X Γ hU g q13 t_q13 x1047 x1054   (RM_101 hRL rfl) (RM_126 hRL rfl)) ⟨callB_of 2 hA (al_A wd_5_226) rfl rfl rfl (hA _ wd_1_7) (hA _ wd_5_223) (by decide +kernel) ⟨Nat.le_of_ble_eq_true rfl, Nat.le_of_ble_eq_true rfl⟩, hA _ wd_5_224, hA _ wd_5_225⟩ ⟨bl, recv_X9 hE hG t_q13, fun U hU9 hW9 => ⟨rfl, by rw [hU9]; exact hG, hE.go hS hU9 hW9⟩⟩ rfl rfl hl.1 rfl (lv_room (Nat.le_of_ble_eq_true rfl)) dL_law_938 ⟨(Nat.le_trans (show kc + 0 ≤ 300000 by omega) (Nat.le_of_ble_eq_true rfl)), (Nat.le_trans (show ks + 0 ≤ 300000 by omega) (Nat.le_of_ble_eq_true rfl))⟩) hS (fun x1072 u1070 H locs w1071 hG hS => ?_)
  obtain ⟨hf1073, w1071⟩ := w1071
  replace w1071 := HD.mk w1071
  have hw1074 : ∀ c, c ∉ ([100] : List Nat) → u1070 c = g c := fun c hc => funext fun j => hf1073 c j (fun q => hc (by rw [q]; decide))
  have hst1075 := st_party (g := g) (u1 := g) (u2 := u1070) (r1 := x1058) (r2 := x1072) hRL (fun _ _ => rfl) hw1074 w1057.v w1071.v
  have hrr1076 := hst1075.2
  refine lv_pop hx hb dL_law_941 rfl ?_
  refine lv_goto (tgt := 1047) hx hb dL_law_942 (by decide) ?_
  obtain ⟨x1077, h1078⟩ : ∃ y : Int32, y = i + Int32.ofInt (6) := ⟨_, rfl⟩
  try have h1079 : x1077.toInt = i.toInt + (6) := ty_inc h1078 (by decide) (by omega) (by omega)
  refine lv_iinc (v := x1077) (lv' := [(4, .int x1077), (3, .ref q29), (2, .ref q13), (1, .ref q1), (0, .ref b)]) hx hb dL_law_1047 hl (k := 0) rfl h1078.symm (by decide) rfl (fun ls hl => ?_)
  refine lv_goto (tgt := 23) hx hb dL_law_1050 (by decide) ?_
  exact ih x1077 Γ u1070 (kc) (ks) _ _ ls (by omega) (by omega) (by have a9 := congrFun (hw1074 4 (by decide)) 0; have b9 := True.intro; omega) hst1075.1 (IJ_e hIJ (hw1074 126 (by decide)) (hw1074 132 (by decide)) (hw1074 134 (by decide))) (Bd_e hBd (hw1074 33 (by decide)) (hw1074 34 (by decide)) (hw1074 35 (by decide))) hU t_q1 t_q13 t_q29 (by omega) (by omega) hG hS (lv_sub hl [0, 1, 2, 3, 4] rfl)
set_option maxHeartbeats 40000000 in
set_option maxRecDepth 100000 in
/-- the law's case 21 -/
theorem law_c21 {p : Program} {e : Env} {s : State} {m : MethodId} {below : List Frame} {meth : Method} {c : Code} (l : Launch) (hl9 : l.stackTraces = false) {b L : Nat} {xs : Nat → Int32} (hLN : L ≤ 3072) (hx : p.tables.exec = Jvm.exec) (hb : c.code = code) (hr : meth.sig.returnType = ret) (hml : c.maxLocals = 7) (hown : s.vm.findClass R_law = some m.cls) (hA : ∀ w ∈ AL, w.before #[Value.ref b] s = true) (hXs : va_X b L xs s s.heap) (hbl : b < s.heap.size) (hlocks : meth.locks = false) {dC : Nat → ClassId} {dI : Nat → Nat → Nat} {dA : Nat → ClassId} {sz : Nat} (hE : en dC dI dA sz s) (hsz : sz = s.heap.size) (hbA : ¬ ty_A sz b) (X : va_W) (q1 q13 q29 : Nat) (n : Nat) (ih : LJ p l e s m below meth c b dC dI dA sz X q1 q13 q29 n) (i : Int32) (Γ : ty_G) (g : gh) (kc ks : Nat) (H : Heap) (locs : List Loc) (ls : Array Slot) (hm : (3073 - i.toInt : Int) < (n + 1 : Nat)) (hi0 : 0 ≤ i.toInt ∧ i.toInt ≤ 3072) (hy4 : g 4 0 ≤ i.toInt) (hRL : RLA g) (hIJ : IJ g) (hBd : Bd Γ g) (hU : Un Γ) (t_q1 : ty Γ q1 1) (t_q13 : ty Γ q13 30) (t_q29 : ty Γ q29 25) (hkc : kc ≤ 300 + i.toInt.toNat) (hks : ks ≤ 30000 + 28 * i.toInt.toNat) (hG : ty_ok (dC, dI) vwCl Γ (TP dA Γ g) sz X H) (hS : va_S (ty_A sz) s.heap H locs) (hl : lv_has ls 7 [(4, .int i), (3, .ref q29), (2, .ref q13), (1, .ref q1), (0, .ref b)]) (hiL : i.toInt + 6 ≤ (L : Int)) : W p l e room_1 s m #[Value.ref b] below meth c H locs kc ks (lw_Z below #[Value.ref b] s) (F0 m 945 ls []) := by
  refine lv_aload_n hx hb dL_law_945 rfl (lv_at hl 3 rfl) ?_
  refine lv_aload_n hx hb dL_law_946 rfl (lv_at hl 4 rfl) ?_
  refine lv_iload hx hb dL_law_947 (lv_at hl 0 rfl) ?_
  refine ty_iconst hx hb (1) dL_law_949 (by decide) (fun x1080 h1081 => ?_)
  refine ty_iadd hx hb dL_law_950 (fun x1082 h1083 => ?_)
  have h1084 := lw_ix (k := 1) h1081 h1083 hi0 hiL hLN (by decide)
  refine va_sld hx hb hXs hbl hbA hS (i := x1082) (ty_ix h1084.2) dL_law_951 ?_
  refine W.eq (g2 := F0 m 952 ls [.int (xs (i.toInt.toNat + 1)), .ref q1]) (by rw [lw_xs (xs := xs) h1084.1 hi0.1]) ?_
  clear h1084 h1083 h1081
  refine lv_topi (fun x1085 s1086 => ?_)
  refine lv_aload_n hx hb dL_law_952 rfl (lv_at hl 4 rfl) ?_
  refine lv_iload hx hb dL_law_953 (lv_at hl 0 rfl) ?_
  refine ty_iconst hx hb (2) dL_law_955 (by decide) (fun x1087 h1088 => ?_)
  refine ty_iadd hx hb dL_law_956 (fun x1089 h1090 => ?_)
  have h1091 := lw_ix (k := 2) h1088 h1090 hi0 hiL hLN (by decide)
  refine va_sld hx hb hXs hbl hbA hS (i := x1089) (ty_ix h1091.2) dL_law_957 ?_
  refine W.eq (g2 := F0 m 958 ls [.int (xs (i.toInt.toNat + 2)), .int x1085, .ref q1]) (by rw [lw_xs (xs := xs) h1091.1 hi0.1]) ?_
  clear h1091 h1090 h1088
  refine lv_topi (fun x1092 s1093 => ?_)
  refine lv_aload_n hx hb dL_law_958 rfl (lv_at hl 1 rfl) ?_
  refine vx_calli (vx_runSX (As := [.ref q1, .int x1085, .int x1092, .ref q29]) (rest := []) ⟨hx, hb, hml, hown, hA⟩ (k_L_of l hl9 dC dI dA sz X Γ hU g q1 t_q1 x1085 x1092 q29 t_q29 (RL_3 hRL)) (vx_cwSW 4 hA (al_s4 (al wt_4_52 rfl) wd_4_50 wd_4_51 wd_1_0) rfl rfl rfl (by decide +kernel) ⟨Nat.le_of_ble_eq_true rfl, Nat.le_of_ble_eq_true rfl⟩) ⟨bl, fun U hU9 hW9 => ⟨rfl, by rw [hU9]; exact hG, hE.go hS hU9 hW9⟩⟩ rfl rfl hl.1 rfl (lv_room (Nat.le_of_ble_eq_true rfl)) dL_law_959 ⟨(Nat.le_trans (show kc + 1 ≤ 300000 by omega) (Nat.le_of_ble_eq_true rfl)), (Nat.le_trans (show ks + 6 ≤ 300000 by omega) (Nat.le_of_ble_eq_true rfl))⟩) hS (fun _ _ h => h) (fun _ h => h) (fun _ _ h => h) (fun E ce q9 u t H1 locs1 ht _ hp hB _ _ hS hce hcv hcl => hp.elim) (fun x1094 u1095 t9 H locs ht9 _ w1096 hB _ _ hS => ?_)
  have hG : ty_ok (dC, dI) vwCl Γ (TP dA Γ u1095) sz X H := by rw [← ht9]; exact hB
  rw [show u1095 = g from w1096] at hG
  clear hB
  refine lv_istore (lv' := [(5, .int x1094), (4, .int i), (3, .ref q29), (2, .ref q13), (1, .ref q1), (0, .ref b)]) hx hb dL_law_962 hl (by decide) rfl (fun ls hl => ?_)
  refine lv_aload_n hx hb dL_law_964 rfl (lv_at hl 3 rfl) ?_
  refine lv_aload_n hx hb dL_law_965 rfl (lv_at hl 5 rfl) ?_
  refine lv_iload hx hb dL_law_966 (lv_at hl 1 rfl) ?_
  refine ty_iconst hx hb (1) dL_law_968 (by decide) (fun x1097 h1098 => ?_)
  refine ty_iadd hx hb dL_law_969 (fun x1099 h1100 => ?_)
  have h1101 := lw_ix (k := 1) h1098 h1100 hi0 hiL hLN (by decide)
  refine va_sld hx hb hXs hbl hbA hS (i := x1099) (ty_ix h1101.2) dL_law_970 ?_
  refine W.eq (g2 := F0 m 971 ls [.int (xs (i.toInt.toNat + 1)), .ref q13]) (by rw [lw_xs (xs := xs) h1101.1 hi0.1]) ?_
  clear h1101 h1100 h1098
  refine W.eq (g2 := F0 m 971 ls [.int x1085, .ref q13]) (by rw [s1086]) ?_
  refine lv_aload_n hx hb dL_law_971 rfl (lv_at hl 5 rfl) ?_
  refine lv_iload hx hb dL_law_972 (lv_at hl 1 rfl) ?_
  refine ty_iconst hx hb (2) dL_law_974 (by decide) (fun x1102 h1103 => ?_)
  refine ty_iadd hx hb dL_law_975 (fun x1104 h1105 => ?_)
  have h1106 := lw_ix (k := 2) h1103 h1105 hi0 hiL hLN (by decide)
  refine va_sld hx hb hXs hbl hbA hS (i := x1104) (ty_ix h1106.2) dL_law_976 ?_
  refine W.eq (g2 := F0 m 977 ls [.int (xs (i.toInt.toNat + 2)), .int x1085, .ref q13]) (by rw [lw_xs (xs := xs) h1106.1 hi0.1]) ?_
  clear h1106 h1105 h1103
  refine W.eq (g2 := F0 m 977 ls [.int x1092, .int x1085, .ref q13]) (by rw [s1093]) ?_
  refine cI (va_runV (C := RX9) (As := [.int x1085, .int x1092]) (rest := []) ⟨hx, hb, hml, hown, hA⟩ (k_X9_of l dC dI dA sz X Γ hU g q13 t_q13 x1085 x1092   (RM_126 hRL rfl)) ⟨callB_of 2 hA (al_A wd_5_230) rfl rfl rfl (hA _ wd_1_7) (hA _ wd_5_227) (by decide +kernel) ⟨Nat.le_of_ble_eq_true rfl, Nat.le_of_ble_eq_true rfl⟩, hA _ wd_5_228, hA _ wd_5_229⟩ ⟨bl, recv_X9 hE hG t_q13, fun U hU9 hW9 => ⟨rfl, by rw [hU9]; exact hG, hE.go hS hU9 hW9⟩⟩ rfl rfl hl.1 rfl (lv_room (Nat.le_of_ble_eq_true rfl)) dL_law_977 ⟨(Nat.le_trans (show (kc + 1) + 0 ≤ 300000 by omega) (Nat.le_of_ble_eq_true rfl)), (Nat.le_trans (show (ks + 6) + 0 ≤ 300000 by omega) (Nat.le_of_ble_eq_true rfl))⟩) hS (fun x1109 u1107 H locs w1108 hG hS => ?_)
  obtain ⟨hf1111, hq1110⟩ := w1108
  replace hq1110 := HD.mk hq1110
  have hw1112 : ∀ c, c ∉ ([100] : List Nat) → u1107 c = g c := fun c hc => funext fun j => hf1111 c j (fun q => hc (by rw [q]; decide))
  have hst1113 := RL_100 hRL hw1112
  refine lv_istore (lv' := [(6, .int x1109), (5, .int x1094), (4, .int i), (3, .ref q29), (2, .ref q13), (1, .ref q1), (0, .ref b)]) hx hb dL_law_980 hl (by decide) rfl (fun ls hl => ?_)
  refine lv_goto (tgt := 1047) hx hb dL_law_982 (by decide) ?_
  obtain ⟨x1114, h1115⟩ : ∃ y : Int32, y = i + Int32.ofInt (6) := ⟨_, rfl⟩
  try have h1116 : x1114.toInt = i.toInt + (6) := ty_inc h1115 (by decide) (by omega) (by omega)
  refine lv_iinc (v := x1114) (lv' := [(4, .int x1114), (6, .int x1109), (5, .int x1094), (3, .ref q29), (2, .ref q13), (1, .ref q1), (0, .ref b)]) hx hb dL_law_1047 hl (k := 2) rfl h1115.symm (by decide) rfl (fun ls hl => ?_)
  refine lv_goto (tgt := 23) hx hb dL_law_1050 (by decide) ?_
  exact ih x1114 Γ u1107 ((kc + 1)) ((ks + 6)) _ _ ls (by omega) (by omega) (by have a9 := congrFun (hw1112 4 (by decide)) 0; have b9 := True.intro; omega) hst1113 (IJ_e hIJ (hw1112 126 (by decide)) (hw1112 132 (by decide)) (hw1112 134 (by decide))) (Bd_e hBd (hw1112 33 (by decide)) (hw1112 34 (by decide)) (hw1112 35 (by decide))) hU t_q1 t_q13 t_q29 (by omega) (by omega) hG hS (lv_sub hl [0, 3, 4, 5, 6] rfl)
set_option maxHeartbeats 40000000 in
set_option maxRecDepth 100000 in
/-- the law's case 22 -/
theorem law_c22 {p : Program} {e : Env} {s : State} {m : MethodId} {below : List Frame} {meth : Method} {c : Code} (l : Launch) (hl9 : l.stackTraces = false) {b L : Nat} {xs : Nat → Int32} (hLN : L ≤ 3072) (hx : p.tables.exec = Jvm.exec) (hb : c.code = code) (hr : meth.sig.returnType = ret) (hml : c.maxLocals = 7) (hown : s.vm.findClass R_law = some m.cls) (hA : ∀ w ∈ AL, w.before #[Value.ref b] s = true) (hXs : va_X b L xs s s.heap) (hbl : b < s.heap.size) (hlocks : meth.locks = false) {dC : Nat → ClassId} {dI : Nat → Nat → Nat} {dA : Nat → ClassId} {sz : Nat} (hE : en dC dI dA sz s) (hsz : sz = s.heap.size) (hbA : ¬ ty_A sz b) (X : va_W) (q1 q13 q29 : Nat) (n : Nat) (ih : LJ p l e s m below meth c b dC dI dA sz X q1 q13 q29 n) (i : Int32) (Γ : ty_G) (g : gh) (kc ks : Nat) (H : Heap) (locs : List Loc) (ls : Array Slot) (hm : (3073 - i.toInt : Int) < (n + 1 : Nat)) (hi0 : 0 ≤ i.toInt ∧ i.toInt ≤ 3072) (hy4 : g 4 0 ≤ i.toInt) (hRL : RLA g) (hIJ : IJ g) (hBd : Bd Γ g) (hU : Un Γ) (t_q1 : ty Γ q1 1) (t_q13 : ty Γ q13 30) (t_q29 : ty Γ q29 25) (hkc : kc ≤ 300 + i.toInt.toNat) (hks : ks ≤ 30000 + 28 * i.toInt.toNat) (hG : ty_ok (dC, dI) vwCl Γ (TP dA Γ g) sz X H) (hS : va_S (ty_A sz) s.heap H locs) (hl : lv_has ls 7 [(4, .int i), (3, .ref q29), (2, .ref q13), (1, .ref q1), (0, .ref b)]) (hiL : i.toInt + 6 ≤ (L : Int)) : W p l e room_1 s m #[Value.ref b] below meth c H locs kc ks (lw_Z below #[Value.ref b] s) (F0 m 985 ls []) := by
  refine lv_aload_n hx hb dL_law_985 rfl (lv_at hl 3 rfl) ?_
  refine lv_aload_n hx hb dL_law_986 rfl (lv_at hl 4 rfl) ?_
  refine lv_iload hx hb dL_law_987 (lv_at hl 0 rfl) ?_
  refine ty_iconst hx hb (1) dL_law_989 (by decide) (fun x1117 h1118 => ?_)
  refine ty_iadd hx hb dL_law_990 (fun x1119 h1120 => ?_)
  have h1121 := lw_ix (k := 1) h1118 h1120 hi0 hiL hLN (by decide)
  refine va_sld hx hb hXs hbl hbA hS (i := x1119) (ty_ix h1121.2) dL_law_991 ?_
  refine W.eq (g2 := F0 m 992 ls [.int (xs (i.toInt.toNat + 1)), .ref q1]) (by rw [lw_xs (xs := xs) h1121.1 hi0.1]) ?_
  clear h1121 h1120 h1118
  refine lv_topi (fun x1122 s1123 => ?_)
  refine lv_aload_n hx hb dL_law_992 rfl (lv_at hl 4 rfl) ?_
  refine lv_iload hx hb dL_law_993 (lv_at hl 0 rfl) ?_
  refine ty_iconst hx hb (2) dL_law_995 (by decide) (fun x1124 h1125 => ?_)
  refine ty_iadd hx hb dL_law_996 (fun x1126 h1127 => ?_)
  have h1128 := lw_ix (k := 2) h1125 h1127 hi0 hiL hLN (by decide)
  refine va_sld hx hb hXs hbl hbA hS (i := x1126) (ty_ix h1128.2) dL_law_997 ?_
  refine W.eq (g2 := F0 m 998 ls [.int (xs (i.toInt.toNat + 2)), .int x1122, .ref q1]) (by rw [lw_xs (xs := xs) h1128.1 hi0.1]) ?_
  clear h1128 h1127 h1125
  refine lv_topi (fun x1129 s1130 => ?_)
  refine cI (va_runV (C := RX8) (As := [.int x1122, .int x1129]) (rest := []) ⟨hx, hb, hml, hown, hA⟩ (k_X8_ownerOf l dC dI dA sz X Γ hU g q1 t_q1 x1122 x1129   (RL_2 hRL)) ⟨callB_of 2 hA (al_A wd_4_41) rfl rfl rfl (hA _ wd_1_1) (hA _ wd_4_38) (by decide +kernel) ⟨Nat.le_of_ble_eq_true rfl, Nat.le_of_ble_eq_true rfl⟩, hA _ wd_4_39, hA _ wd_4_40⟩ ⟨bl, recv_X8 hE hG t_q1, fun U hU9 hW9 => ⟨rfl, by rw [hU9]; exact hG, hE.go hS hU9 hW9⟩⟩ rfl rfl hl.1 rfl (lv_room (Nat.le_of_ble_eq_true rfl)) dL_law_998 ⟨(Nat.le_trans (show kc + 0 ≤ 300000 by omega) (Nat.le_of_ble_eq_true rfl)), (Nat.le_trans (show ks + 0 ≤ 300000 by omega) (Nat.le_of_ble_eq_true rfl))⟩) hS (fun x1133 u1131 H locs w1132 hG hS => ?_)
  obtain ⟨eu1134, w1132⟩ := w1132
  rw [eu1134] at hG
  replace w1132 := HD.mk w1132
  refine lv_pop hx hb dL_law_1001 rfl ?_
  refine lv_aload_n hx hb dL_law_1002 rfl (lv_at hl 2 rfl) ?_
  refine lv_aload_n hx hb dL_law_1003 rfl (lv_at hl 4 rfl) ?_
  refine lv_iload hx hb dL_law_1004 (lv_at hl 0 rfl) ?_
  refine ty_iconst hx hb (1) dL_law_1006 (by decide) (fun x1135 h1136 => ?_)
  refine ty_iadd hx hb dL_law_1007 (fun x1137 h1138 => ?_)
  have h1139 := lw_ix (k := 1) h1136 h1138 hi0 hiL hLN (by decide)
  refine va_sld hx hb hXs hbl hbA hS (i := x1137) (ty_ix h1139.2) dL_law_1008 ?_
  refine W.eq (g2 := F0 m 1009 ls [.int (xs (i.toInt.toNat + 1)), .ref q13]) (by rw [lw_xs (xs := xs) h1139.1 hi0.1]) ?_
  clear h1139 h1138 h1136
  refine W.eq (g2 := F0 m 1009 ls [.int x1122, .ref q13]) (by rw [s1123]) ?_
  refine lv_aload_n hx hb dL_law_1009 rfl (lv_at hl 4 rfl) ?_
  refine lv_iload hx hb dL_law_1010 (lv_at hl 0 rfl) ?_
  refine ty_iconst hx hb (2) dL_law_1012 (by decide) (fun x1140 h1141 => ?_)
  refine ty_iadd hx hb dL_law_1013 (fun x1142 h1143 => ?_)
  have h1144 := lw_ix (k := 2) h1141 h1143 hi0 hiL hLN (by decide)
  refine va_sld hx hb hXs hbl hbA hS (i := x1142) (ty_ix h1144.2) dL_law_1014 ?_
  refine W.eq (g2 := F0 m 1015 ls [.int (xs (i.toInt.toNat + 2)), .int x1122, .ref q13]) (by rw [lw_xs (xs := xs) h1144.1 hi0.1]) ?_
  clear h1144 h1143 h1141
  refine W.eq (g2 := F0 m 1015 ls [.int x1129, .int x1122, .ref q13]) (by rw [s1130]) ?_
  refine cI (va_runV (C := RX9) (As := [.int x1122, .int x1129]) (rest := []) ⟨hx, hb, hml, hown, hA⟩ (k_X9_ownerOf l dC dI dA sz X Γ hU g q13 t_q13 x1122 x1129   (RM_104 hRL rfl)) ⟨callB_of 2 hA (al_A wd_5_234) rfl rfl rfl (hA _ wd_1_7) (hA _ wd_5_231) (by decide +kernel) ⟨Nat.le_of_ble_eq_true rfl, Nat.le_of_ble_eq_true rfl⟩, hA _ wd_5_232, hA _ wd_5_233⟩ ⟨bl, recv_X9 hE hG t_q13, fun U hU9 hW9 => ⟨rfl, by rw [hU9]; exact hG, hE.go hS hU9 hW9⟩⟩ rfl rfl hl.1 rfl (lv_room (Nat.le_of_ble_eq_true rfl)) dL_law_1015 ⟨(Nat.le_trans (show kc + 0 ≤ 300000 by omega) (Nat.le_of_ble_eq_true rfl)), (Nat.le_trans (show ks + 0 ≤ 300000 by omega) (Nat.le_of_ble_eq_true rfl))⟩) hS (fun x1147 u1145 H locs w1146 hG hS => ?_)
  obtain ⟨hf1148, w1146⟩ := w1146
  replace w1146 := HD.mk w1146
  have hw1149 : ∀ c, c ∉ ([100] : List Nat) → u1145 c = g c := fun c hc => funext fun j => hf1148 c j (fun q => hc (by rw [q]; decide))
  have hst1150 := st_ownerOf (g := g) (u1 := g) (u2 := u1145) (r1 := x1133) (r2 := x1147) hRL (fun _ _ => rfl) hw1149 w1132.v w1146.v
  have hrr1151 := hst1150.2
  refine lv_pop hx hb dL_law_1018 rfl ?_
  refine lv_goto (tgt := 1047) hx hb dL_law_1019 (by decide) ?_
  obtain ⟨x1152, h1153⟩ : ∃ y : Int32, y = i + Int32.ofInt (6) := ⟨_, rfl⟩
  try have h1154 : x1152.toInt = i.toInt + (6) := ty_inc h1153 (by decide) (by omega) (by omega)
  refine lv_iinc (v := x1152) (lv' := [(4, .int x1152), (3, .ref q29), (2, .ref q13), (1, .ref q1), (0, .ref b)]) hx hb dL_law_1047 hl (k := 0) rfl h1153.symm (by decide) rfl (fun ls hl => ?_)
  refine lv_goto (tgt := 23) hx hb dL_law_1050 (by decide) ?_
  exact ih x1152 Γ u1145 (kc) (ks) _ _ ls (by omega) (by omega) (by have a9 := congrFun (hw1149 4 (by decide)) 0; have b9 := True.intro; omega) hst1150.1 (IJ_e hIJ (hw1149 126 (by decide)) (hw1149 132 (by decide)) (hw1149 134 (by decide))) (Bd_e hBd (hw1149 33 (by decide)) (hw1149 34 (by decide)) (hw1149 35 (by decide))) hU t_q1 t_q13 t_q29 (by omega) (by omega) hG hS (lv_sub hl [0, 1, 2, 3, 4] rfl)
set_option maxHeartbeats 40000000 in
set_option maxRecDepth 100000 in
/-- the law's case 23 -/
theorem law_c23 {p : Program} {e : Env} {s : State} {m : MethodId} {below : List Frame} {meth : Method} {c : Code} (l : Launch) (hl9 : l.stackTraces = false) {b L : Nat} {xs : Nat → Int32} (hLN : L ≤ 3072) (hx : p.tables.exec = Jvm.exec) (hb : c.code = code) (hr : meth.sig.returnType = ret) (hml : c.maxLocals = 7) (hown : s.vm.findClass R_law = some m.cls) (hA : ∀ w ∈ AL, w.before #[Value.ref b] s = true) (hXs : va_X b L xs s s.heap) (hbl : b < s.heap.size) (hlocks : meth.locks = false) {dC : Nat → ClassId} {dI : Nat → Nat → Nat} {dA : Nat → ClassId} {sz : Nat} (hE : en dC dI dA sz s) (hsz : sz = s.heap.size) (hbA : ¬ ty_A sz b) (X : va_W) (q1 q13 q29 : Nat) (n : Nat) (ih : LJ p l e s m below meth c b dC dI dA sz X q1 q13 q29 n) (i : Int32) (Γ : ty_G) (g : gh) (kc ks : Nat) (H : Heap) (locs : List Loc) (ls : Array Slot) (hm : (3073 - i.toInt : Int) < (n + 1 : Nat)) (hi0 : 0 ≤ i.toInt ∧ i.toInt ≤ 3072) (hy4 : g 4 0 ≤ i.toInt) (hRL : RLA g) (hIJ : IJ g) (hBd : Bd Γ g) (hU : Un Γ) (t_q1 : ty Γ q1 1) (t_q13 : ty Γ q13 30) (t_q29 : ty Γ q29 25) (hkc : kc ≤ 300 + i.toInt.toNat) (hks : ks ≤ 30000 + 28 * i.toInt.toNat) (hG : ty_ok (dC, dI) vwCl Γ (TP dA Γ g) sz X H) (hS : va_S (ty_A sz) s.heap H locs) (hl : lv_has ls 7 [(4, .int i), (3, .ref q29), (2, .ref q13), (1, .ref q1), (0, .ref b)]) (hiL : i.toInt + 6 ≤ (L : Int)) : W p l e room_1 s m #[Value.ref b] below meth c H locs kc ks (lw_Z below #[Value.ref b] s) (F0 m 1022 ls []) := by
  refine lv_aload_n hx hb dL_law_1022 rfl (lv_at hl 3 rfl) ?_
  refine lv_aload_n hx hb dL_law_1023 rfl (lv_at hl 4 rfl) ?_
  refine lv_iload hx hb dL_law_1024 (lv_at hl 0 rfl) ?_
  refine ty_iconst hx hb (1) dL_law_1026 (by decide) (fun x1155 h1156 => ?_)
  refine ty_iadd hx hb dL_law_1027 (fun x1157 h1158 => ?_)
  have h1159 := lw_ix (k := 1) h1156 h1158 hi0 hiL hLN (by decide)
  refine va_sld hx hb hXs hbl hbA hS (i := x1157) (ty_ix h1159.2) dL_law_1028 ?_
  refine W.eq (g2 := F0 m 1029 ls [.int (xs (i.toInt.toNat + 1)), .ref q1]) (by rw [lw_xs (xs := xs) h1159.1 hi0.1]) ?_
  clear h1159 h1158 h1156
  refine lv_topi (fun x1160 s1161 => ?_)
  refine cI (va_runV (C := RX8) (As := [.int x1160]) (rest := []) ⟨hx, hb, hml, hown, hA⟩ (k_X8_count l dC dI dA sz X Γ hU g q1 t_q1 x1160   (RL_2 hRL) (RL_3 hRL)) ⟨callB_of 1 hA (al_A wd_4_45) rfl rfl rfl (hA _ wd_1_1) (hA _ wd_4_42) (by decide +kernel) ⟨Nat.le_of_ble_eq_true rfl, Nat.le_of_ble_eq_true rfl⟩, hA _ wd_4_43, hA _ wd_4_44⟩ ⟨bl, recv_X8 hE hG t_q1, fun U hU9 hW9 => ⟨rfl, by rw [hU9]; exact hG, hE.go hS hU9 hW9⟩⟩ rfl rfl hl.1 rfl (lv_room (Nat.le_of_ble_eq_true rfl)) dL_law_1029 ⟨(Nat.le_trans (show kc + 0 ≤ 300000 by omega) (Nat.le_of_ble_eq_true rfl)), (Nat.le_trans (show ks + 0 ≤ 300000 by omega) (Nat.le_of_ble_eq_true rfl))⟩) hS (fun x1164 u1162 H locs w1163 hG hS => ?_)
  obtain ⟨eu1165, w1163⟩ := w1163
  rw [eu1165] at hG
  replace w1163 := HD.mk w1163
  refine lv_pop hx hb dL_law_1032 rfl ?_
  refine lv_aload_n hx hb dL_law_1033 rfl (lv_at hl 2 rfl) ?_
  refine lv_aload_n hx hb dL_law_1034 rfl (lv_at hl 4 rfl) ?_
  refine lv_iload hx hb dL_law_1035 (lv_at hl 0 rfl) ?_
  refine ty_iconst hx hb (1) dL_law_1037 (by decide) (fun x1166 h1167 => ?_)
  refine ty_iadd hx hb dL_law_1038 (fun x1168 h1169 => ?_)
  have h1170 := lw_ix (k := 1) h1167 h1169 hi0 hiL hLN (by decide)
  refine va_sld hx hb hXs hbl hbA hS (i := x1168) (ty_ix h1170.2) dL_law_1039 ?_
  refine W.eq (g2 := F0 m 1040 ls [.int (xs (i.toInt.toNat + 1)), .ref q13]) (by rw [lw_xs (xs := xs) h1170.1 hi0.1]) ?_
  clear h1170 h1169 h1167
  refine W.eq (g2 := F0 m 1040 ls [.int x1160, .ref q13]) (by rw [s1161]) ?_
  refine cI (va_runV (C := RX9) (As := [.int x1160]) (rest := []) ⟨hx, hb, hml, hown, hA⟩ (k_X9_count l dC dI dA sz X Γ hU g q13 t_q13 x1160   (RM_104 hRL rfl) (RM_126 hRL rfl) (RM_122 hRL rfl)) ⟨callB_of 1 hA (al_A wd_5_238) rfl rfl rfl (hA _ wd_1_7) (hA _ wd_5_235) (by decide +kernel) ⟨Nat.le_of_ble_eq_true rfl, Nat.le_of_ble_eq_true rfl⟩, hA _ wd_5_236, hA _ wd_5_237⟩ ⟨bl, recv_X9 hE hG t_q13, fun U hU9 hW9 => ⟨rfl, by rw [hU9]; exact hG, hE.go hS hU9 hW9⟩⟩ rfl rfl hl.1 rfl (lv_room (Nat.le_of_ble_eq_true rfl)) dL_law_1040 ⟨(Nat.le_trans (show kc + 0 ≤ 300000 by omega) (Nat.le_of_ble_eq_true rfl)), (Nat.le_trans (show ks + 0 ≤ 300000 by omega) (Nat.le_of_ble_eq_true rfl))⟩) hS (fun x1173 u1171 H locs w1172 hG hS => ?_)
  obtain ⟨hf1174, w1172⟩ := w1172
  replace w1172 := HD.mk w1172
  have hw1175 : ∀ c, c ∉ ([100] : List Nat) → u1171 c = g c := fun c hc => funext fun j => hf1174 c j (fun q => hc (by rw [q]; decide))
  have hst1176 := st_count (g := g) (u1 := g) (u2 := u1171) (r1 := x1164) (r2 := x1173) hRL (fun _ _ => rfl) hw1175 w1163.v w1172.v
  have hrr1177 := hst1176.2
  refine lv_pop hx hb dL_law_1043 rfl ?_
  refine lv_goto (tgt := 1047) hx hb dL_law_1044 (by decide) ?_
  obtain ⟨x1178, h1179⟩ : ∃ y : Int32, y = i + Int32.ofInt (6) := ⟨_, rfl⟩
  try have h1180 : x1178.toInt = i.toInt + (6) := ty_inc h1179 (by decide) (by omega) (by omega)
  refine lv_iinc (v := x1178) (lv' := [(4, .int x1178), (3, .ref q29), (2, .ref q13), (1, .ref q1), (0, .ref b)]) hx hb dL_law_1047 hl (k := 0) rfl h1179.symm (by decide) rfl (fun ls hl => ?_)
  refine lv_goto (tgt := 23) hx hb dL_law_1050 (by decide) ?_
  exact ih x1178 Γ u1171 (kc) (ks) _ _ ls (by omega) (by omega) (by have a9 := congrFun (hw1175 4 (by decide)) 0; have b9 := True.intro; omega) hst1176.1 (IJ_e hIJ (hw1175 126 (by decide)) (hw1175 132 (by decide)) (hw1175 134 (by decide))) (Bd_e hBd (hw1175 33 (by decide)) (hw1175 34 (by decide)) (hw1175 35 (by decide))) hU t_q1 t_q13 t_q29 (by omega) (by omega) hG hS (lv_sub hl [0, 1, 2, 3, 4] rfl)
