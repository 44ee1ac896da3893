set_option maxHeartbeats 40000000 in
set_option maxRecDepth 100000 in
/-- the law's case 16 -/
theorem law_c16 {p : Program} {e : Env} {s : State} {m : MethodId} {below : List Frame} {meth : Method} {c : Code} (l : Launch) (hl9 : l.stackTraces = false) {b L : Nat} {xs : Nat → Int32} (hLN : L ≤ 3072) (hx : p.tables.exec = Jvm.exec) (hb : c.code = code) (hr : meth.sig.returnType = ret) (hml : c.maxLocals = 7) (hown : s.vm.findClass R_law = some m.cls) (hA : ∀ w ∈ AL, w.before #[Value.ref b] s = true) (hXs : va_X b L xs s s.heap) (hbl : b < s.heap.size) (hlocks : meth.locks = false) {dC : Nat → ClassId} {dI : Nat → Nat → Nat} {dA : Nat → ClassId} {sz : Nat} (hE : en dC dI dA sz s) (hsz : sz = s.heap.size) (hbA : ¬ ty_A sz b) (X : va_W) (q1 q13 q29 : Nat) (n : Nat) (ih : LJ p l e s m below meth c b dC dI dA sz X q1 q13 q29 n) (i : Int32) (Γ : ty_G) (g : gh) (kc ks : Nat) (H : Heap) (locs : List Loc) (ls : Array Slot) (hm : (3073 - i.toInt : Int) < (n + 1 : Nat)) (hi0 : 0 ≤ i.toInt ∧ i.toInt ≤ 3072) (hy4 : g 4 0 ≤ i.toInt) (hRL : RLA g) (hIJ : IJ g) (hBd : Bd Γ g) (hU : Un Γ) (t_q1 : ty Γ q1 1) (t_q13 : ty Γ q13 30) (t_q29 : ty Γ q29 25) (hkc : kc ≤ 300 + i.toInt.toNat) (hks : ks ≤ 30000 + 28 * i.toInt.toNat) (hG : ty_ok (dC, dI) vwCl Γ (TP dA Γ g) sz X H) (hS : va_S (ty_A sz) s.heap H locs) (hl : lv_has ls 7 [(4, .int i), (3, .ref q29), (2, .ref q13), (1, .ref q1), (0, .ref b)]) (hiL : i.toInt + 6 ≤ (L : Int)) : W p l e room_1 s m #[Value.ref b] below meth c H locs kc ks (lw_Z below #[Value.ref b] s) (F0 m 768 ls []) := by
  refine lv_aload_n hx hb dL_law_768 rfl (lv_at hl 3 rfl) ?_
  refine lv_aload_n hx hb dL_law_769 rfl (lv_at hl 4 rfl) ?_
  refine lv_iload hx hb dL_law_770 (lv_at hl 0 rfl) ?_
  refine ty_iconst hx hb (1) dL_law_772 (by decide) (fun x838 h839 => ?_)
  refine ty_iadd hx hb dL_law_773 (fun x840 h841 => ?_)
  have h842 := lw_ix (k := 1) h839 h841 hi0 hiL hLN (by decide)
  refine va_sld hx hb hXs hbl hbA hS (i := x840) (ty_ix h842.2) dL_law_774 ?_
  refine W.eq (g2 := F0 m 775 ls [.int (xs (i.toInt.toNat + 1)), .ref q1]) (by rw [lw_xs (xs := xs) h842.1 hi0.1]) ?_
  clear h842 h841 h839
  refine lv_topi (fun x843 s844 => ?_)
  refine cI (va_runV (C := RX8) (As := [.int x843]) (rest := []) ⟨hx, hb, hml, hown, hA⟩ (k_X8_weeks l dC dI dA sz X Γ hU g q1 t_q1 x843   (RL_3 hRL) (RL_5 hRL)) ⟨callB_of 1 hA (al_A wd_3_220) rfl rfl rfl (hA _ wd_1_1) (hA _ wd_3_217) (by decide +kernel) ⟨Nat.le_of_ble_eq_true rfl, Nat.le_of_ble_eq_true rfl⟩, hA _ wd_3_218, hA _ wd_3_219⟩ ⟨bl, recv_X8 hE hG t_q1, fun U hU9 hW9 => ⟨rfl, by rw [hU9]; exact hG, hE.go hS hU9 hW9⟩⟩ rfl rfl hl.1 rfl (lv_room (Nat.le_of_ble_eq_true rfl)) dL_law_775 ⟨(Nat.le_trans (show kc + 0 ≤ 300000 by omega) (Nat.le_of_ble_eq_true rfl)), (Nat.le_trans (show ks + 0 ≤ 300000 by omega) (Nat.le_of_ble_eq_true rfl))⟩) hS (fun x847 u845 H locs w846 hG hS => ?_)
  obtain ⟨hf849, w846, hq848⟩ := w846
  replace w846 := HD.mk w846
  replace hq848 := HD.mk hq848
  have hw850 : ∀ c, c ∉ ([5, 65] : List Nat) → u845 c = g c := fun c hc => funext fun j => hf849 c j (fun q => hc (by rw [q]; decide)) (fun q => hc (by rw [q]; decide))
  have hb851 : Bd Γ u845 := Bd_e hBd (hw850 33 (by decide)) (hw850 34 (by decide)) (hw850 35 (by decide))
  have hj852 : IJ u845 := IJ_e hIJ (hw850 126 (by decide)) (hw850 132 (by decide)) (hw850 134 (by decide))
  refine lv_pop hx hb dL_law_778 rfl ?_
  refine lv_aload_n hx hb dL_law_779 rfl (lv_at hl 2 rfl) ?_
  refine lv_aload_n hx hb dL_law_780 rfl (lv_at hl 4 rfl) ?_
  refine lv_iload hx hb dL_law_781 (lv_at hl 0 rfl) ?_
  refine ty_iconst hx hb (1) dL_law_783 (by decide) (fun x853 h854 => ?_)
  refine ty_iadd hx hb dL_law_784 (fun x855 h856 => ?_)
  have h857 := lw_ix (k := 1) h854 h856 hi0 hiL hLN (by decide)
  refine va_sld hx hb hXs hbl hbA hS (i := x855) (ty_ix h857.2) dL_law_785 ?_
  refine W.eq (g2 := F0 m 786 ls [.int (xs (i.toInt.toNat + 1)), .ref q13]) (by rw [lw_xs (xs := xs) h857.1 hi0.1]) ?_
  clear h857 h856 h854
  refine W.eq (g2 := F0 m 786 ls [.int x843, .ref q13]) (by rw [s844]) ?_
  refine cI (va_runV (C := RX9) (As := [.int x843]) (rest := []) ⟨hx, hb, hml, hown, hA⟩ (k_X9_weeks l dC dI dA sz X Γ hU u845 q13 t_q13 x843   (RM_126 hRL (hw850 126 (by decide))) (RM_112 hRL (hw850 112 (by decide))) (hj852)) ⟨callB_of 1 hA (al_A wd_5_193) rfl rfl rfl (hA _ wd_1_7) (hA _ wd_5_190) (by decide +kernel) ⟨Nat.le_of_ble_eq_true rfl, Nat.le_of_ble_eq_true rfl⟩, hA _ wd_5_191, hA _ wd_5_192⟩ ⟨bl, recv_X9 hE hG t_q13, fun U hU9 hW9 => ⟨rfl, by rw [hU9]; exact hG, hE.go hS hU9 hW9⟩⟩ rfl rfl hl.1 rfl (lv_room (Nat.le_of_ble_eq_true rfl)) dL_law_786 ⟨(Nat.le_trans (show kc + 0 ≤ 300000 by omega) (Nat.le_of_ble_eq_true rfl)), (Nat.le_trans (show ks + 0 ≤ 300000 by omega) (Nat.le_of_ble_eq_true rfl))⟩) hS (fun x860 u858 H locs w859 hG hS => ?_)
  obtain ⟨hf863, w859, hq861, hq862⟩ := w859
  replace w859 := HD.mk w859
  replace hq862 := HD.mk hq862
  have hw864 : ∀ c, c ∉ ([100, 112, 132] : List Nat) → u858 c = u845 c := fun c hc => funext fun j => hf863 c j (fun q => hc (by rw [q]; decide)) (fun q => hc (by rw [q]; decide)) (fun q => hc (by rw [q]; decide))
  have hst865 := st_weeks (g := g) (u1 := u845) (u2 := u858) (r1 := x847) (r2 := x860) hRL hw850 hw864 w846.v.1 w846.v.2 hq848.v w859.v.1 w859.v.2 hq862.v
  have hrr866 := hst865.2
  refine lv_pop hx hb dL_law_789 rfl ?_
  refine lv_goto (tgt := 1047) hx hb dL_law_790 (by decide) ?_
  obtain ⟨x867, h868⟩ : ∃ y : Int32, y = i + Int32.ofInt (6) := ⟨_, rfl⟩
  try have h869 : x867.toInt = i.toInt + (6) := ty_inc h868 (by decide) (by omega) (by omega)
  refine lv_iinc (v := x867) (lv' := [(4, .int x867), (3, .ref q29), (2, .ref q13), (1, .ref q1), (0, .ref b)]) hx hb dL_law_1047 hl (k := 0) rfl h868.symm (by decide) rfl (fun ls hl => ?_)
  refine lv_goto (tgt := 23) hx hb dL_law_1050 (by decide) ?_
  exact ih x867 Γ u858 (kc) (ks) _ _ ls (by omega) (by omega) (by have a9 := congrFun (hw864 4 (by decide)) 0; have b9 := congrFun (hw850 4 (by decide)) 0; omega) hst865.1 hq861 (Bd_e hb851 (hw864 33 (by decide)) (hw864 34 (by decide)) (hw864 35 (by decide))) hU t_q1 t_q13 t_q29 (by omega) (by omega) hG hS (lv_sub hl [0, 1, 2, 3, 4] rfl)
set_option maxHeartbeats 40000000 in
set_option maxRecDepth 100000 in
/-- the law's case 17 -/
theorem law_c17 {p : Program} {e : Env} {s : State} {m : MethodId} {below : List Frame} {meth : Method} {c : Code} (l : Launch) (hl9 : l.stackTraces = false) {b L : Nat} {xs : Nat → Int32} (hLN : L ≤ 3072) (hx : p.tables.exec = Jvm.exec) (hb : c.code = code) (hr : meth.sig.returnType = ret) (hml : c.maxLocals = 7) (hown : s.vm.findClass R_law = some m.cls) (hA : ∀ w ∈ AL, w.before #[Value.ref b] s = true) (hXs : va_X b L xs s s.heap) (hbl : b < s.heap.size) (hlocks : meth.locks = false) {dC : Nat → ClassId} {dI : Nat → Nat → Nat} {dA : Nat → ClassId} {sz : Nat} (hE : en dC dI dA sz s) (hsz : sz = s.heap.size) (hbA : ¬ ty_A sz b) (X : va_W) (q1 q13 q29 : Nat) (n : Nat) (ih : LJ p l e s m below meth c b dC dI dA sz X q1 q13 q29 n) (i : Int32) (Γ : ty_G) (g : gh) (kc ks : Nat) (H : Heap) (locs : List Loc) (ls : Array Slot) (hm : (3073 - i.toInt : Int) < (n + 1 : Nat)) (hi0 : 0 ≤ i.toInt ∧ i.toInt ≤ 3072) (hy4 : g 4 0 ≤ i.toInt) (hRL : RLA g) (hIJ : IJ g) (hBd : Bd Γ g) (hU : Un Γ) (t_q1 : ty Γ q1 1) (t_q13 : ty Γ q13 30) (t_q29 : ty Γ q29 25) (hkc : kc ≤ 300 + i.toInt.toNat) (hks : ks ≤ 30000 + 28 * i.toInt.toNat) (hG : ty_ok (dC, dI) vwCl Γ (TP dA Γ g) sz X H) (hS : va_S (ty_A sz) s.heap H locs) (hl : lv_has ls 7 [(4, .int i), (3, .ref q29), (2, .ref q13), (1, .ref q1), (0, .ref b)]) (hiL : i.toInt + 6 ≤ (L : Int)) : W p l e room_1 s m #[Value.ref b] below meth c H locs kc ks (lw_Z below #[Value.ref b] s) (F0 m 793 ls []) := by
  refine lv_aload_n hx hb dL_law_793 rfl (lv_at hl 3 rfl) ?_
  refine cI (va_runV (C := RX8) (As := []) (rest := []) ⟨hx, hb, hml, hown, hA⟩ (k_X8_year l dC dI dA sz X Γ hU g q1 t_q1   (RL_1 hRL) (RL_3 hRL) (RL_4 hRL hy4 hi0.2)) ⟨callB_of 0 hA (al_A wd_3_228) rfl rfl rfl (hA _ wd_1_1) (hA _ wd_3_225) (by decide +kernel) ⟨Nat.le_of_ble_eq_true rfl, Nat.le_of_ble_eq_true rfl⟩, hA _ wd_3_226, hA _ wd_3_227⟩ ⟨bl, recv_X8 hE hG t_q1, fun U hU9 hW9 => ⟨rfl, by rw [hU9]; exact hG, hE.go hS hU9 hW9⟩⟩ rfl rfl hl.1 rfl (lv_room (Nat.le_of_ble_eq_true rfl)) dL_law_794 ⟨(Nat.le_trans (show kc + 0 ≤ 300000 by omega) (Nat.le_of_ble_eq_true rfl)), (Nat.le_trans (show ks + 0 ≤ 300000 by omega) (Nat.le_of_ble_eq_true rfl))⟩) hS (fun x872 u870 H locs w871 hG hS => ?_)
  obtain ⟨hf876, w871, hq873, hq874, hq875⟩ := w871
  replace w871 := HD.mk w871
  replace hq873 := HD.mk hq873
  replace hq874 := HD.mk hq874
  replace hq875 := HD.mk hq875
  have hw877 : ∀ c, c ∉ ([4, 5, 44, 45, 65] : List Nat) → u870 c = g c := fun c hc => funext fun j => hf876 c j (fun q => hc (by rw [q]; decide)) (fun q => hc (by rw [q]; decide)) (fun q => hc (by rw [q]; decide)) (fun q => hc (by rw [q]; decide)) (fun q => hc (by rw [q]; decide))
  have hb878 : Bd Γ u870 := Bd_e hBd (hw877 33 (by decide)) (hw877 34 (by decide)) (hw877 35 (by decide))
  have hj879 : IJ u870 := IJ_e hIJ (hw877 126 (by decide)) (hw877 132 (by decide)) (hw877 134 (by decide))
  refine lv_pop hx hb dL_law_797 rfl ?_
  refine lv_aload_n hx hb dL_law_798 rfl (lv_at hl 2 rfl) ?_
  refine cI (va_runV (C := RX9) (As := []) (rest := []) ⟨hx, hb, hml, hown, hA⟩ (k_X9_year l dC dI dA sz X Γ hU u870 q13 t_q13   (RM_126 hRL (hw877 126 (by decide))) (hj879) (RM_111 hRL hy4 hi0.2 (hw877 111 (by decide)))) ⟨callB_of 0 hA (al_A wd_5_201) rfl rfl rfl (hA _ wd_1_7) (hA _ wd_5_198) (by decide +kernel) ⟨Nat.le_of_ble_eq_true rfl, Nat.le_of_ble_eq_true rfl⟩, hA _ wd_5_199, hA _ wd_5_200⟩ ⟨bl, recv_X9 hE hG t_q13, fun U hU9 hW9 => ⟨rfl, by rw [hU9]; exact hG, hE.go hS hU9 hW9⟩⟩ rfl rfl hl.1 rfl (lv_room (Nat.le_of_ble_eq_true rfl)) dL_law_799 ⟨(Nat.le_trans (show kc + 0 ≤ 300000 by omega) (Nat.le_of_ble_eq_true rfl)), (Nat.le_trans (show ks + 0 ≤ 300000 by omega) (Nat.le_of_ble_eq_true rfl))⟩) hS (fun x882 u880 H locs w881 hG hS => ?_)
  obtain ⟨hf886, w881, hq883, hq884, hq885⟩ := w881
  replace w881 := HD.mk w881
  replace hq884 := HD.mk hq884
  replace hq885 := HD.mk hq885
  have hw887 : ∀ c, c ∉ ([100, 110, 111, 112, 132] : List Nat) → u880 c = u870 c := fun c hc => funext fun j => hf886 c j (fun q => hc (by rw [q]; decide)) (fun q => hc (by rw [q]; decide)) (fun q => hc (by rw [q]; decide)) (fun q => hc (by rw [q]; decide)) (fun q => hc (by rw [q]; decide))
  have hst888 := st_year (g := g) (u1 := u870) (u2 := u880) (r1 := x872) (r2 := x882) hRL hw877 hw887 w871.v.1 w871.v.2.1 w871.v.2.2 hq873.v hq874.v hq875.v w881.v.1 w881.v.2.1 w881.v.2.2 hq884.v hq885.v
  have hrr889 := hst888.2
  refine lv_pop hx hb dL_law_802 rfl ?_
  refine lv_goto (tgt := 1047) hx hb dL_law_803 (by decide) ?_
  obtain ⟨x890, h891⟩ : ∃ y : Int32, y = i + Int32.ofInt (6) := ⟨_, rfl⟩
  try have h892 : x890.toInt = i.toInt + (6) := ty_inc h891 (by decide) (by omega) (by omega)
  refine lv_iinc (v := x890) (lv' := [(4, .int x890), (3, .ref q29), (2, .ref q13), (1, .ref q1), (0, .ref b)]) hx hb dL_law_1047 hl (k := 0) rfl h891.symm (by decide) rfl (fun ls hl => ?_)
  refine lv_goto (tgt := 23) hx hb dL_law_1050 (by decide) ?_
  exact ih x890 Γ u880 (kc) (ks) _ _ ls (by omega) (by omega) (by have a9 := congrFun (hw887 4 (by decide)) 0; have b9 := w871.v.2.1; omega) hst888.1 hq883 (Bd_e hb878 (hw887 33 (by decide)) (hw887 34 (by decide)) (hw887 35 (by decide))) hU t_q1 t_q13 t_q29 (by omega) (by omega) hG hS (lv_sub hl [0, 1, 2, 3, 4] rfl)
set_option maxHeartbeats 40000000 in
set_option maxRecDepth 100000 in
/-- the law's case 18 -/
theorem law_c18 {p : Program} {e : Env} {s : State} {m : MethodId} {below : List Frame} {meth : Method} {c : Code} (l : Launch) (hl9 : l.stackTraces = false) {b L : Nat} {xs : Nat → Int32} (hLN : L ≤ 3072) (hx : p.tables.exec = Jvm.exec) (hb : c.code = code) (hr : meth.sig.returnType = ret) (hml : c.maxLocals = 7) (hown : s.vm.findClass R_law = some m.cls) (hA : ∀ w ∈ AL, w.before #[Value.ref b] s = true) (hXs : va_X b L xs s s.heap) (hbl : b < s.heap.size) (hlocks : meth.locks = false) {dC : Nat → ClassId} {dI : Nat → Nat → Nat} {dA : Nat → ClassId} {sz : Nat} (hE : en dC dI dA sz s) (hsz : sz = s.heap.size) (hbA : ¬ ty_A sz b) (X : va_W) (q1 q13 q29 : Nat) (n : Nat) (ih : LJ p l e s m below meth c b dC dI dA sz X q1 q13 q29 n) (i : Int32) (Γ : ty_G) (g : gh) (kc ks : Nat) (H : Heap) (locs : List Loc) (ls : Array Slot) (hm : (3073 - i.toInt : Int) < (n + 1 : Nat)) (hi0 : 0 ≤ i.toInt ∧ i.toInt ≤ 3072) (hy4 : g 4 0 ≤ i.toInt) (hRL : RLA g) (hIJ : IJ g) (hBd : Bd Γ g) (hU : Un Γ) (t_q1 : ty Γ q1 1) (t_q13 : ty Γ q13 30) (t_q29 : ty Γ q29 25) (hkc : kc ≤ 300 + i.toInt.toNat) (hks : ks ≤ 30000 + 28 * i.toInt.toNat) (hG : ty_ok (dC, dI) vwCl Γ (TP dA Γ g) sz X H) (hS : va_S (ty_A sz) s.heap H locs) (hl : lv_has ls 7 [(4, .int i), (3, .ref q29), (2, .ref q13), (1, .ref q1), (0, .ref b)]) (hiL : i.toInt + 6 ≤ (L : Int)) : W p l e room_1 s m #[Value.ref b] below meth c H locs kc ks (lw_Z below #[Value.ref b] s) (F0 m 806 ls []) := by
  refine lv_aload_n hx hb dL_law_806 rfl (lv_at hl 3 rfl) ?_
  refine lv_aload_n hx hb dL_law_807 rfl (lv_at hl 4 rfl) ?_
  refine lv_iload hx hb dL_law_808 (lv_at hl 0 rfl) ?_
  refine ty_iconst hx hb (1) dL_law_810 (by decide) (fun x893 h894 => ?_)
  refine ty_iadd hx hb dL_law_811 (fun x895 h896 => ?_)
  have h897 := lw_ix (k := 1) h894 h896 hi0 hiL hLN (by decide)
  refine va_sld hx hb hXs hbl hbA hS (i := x895) (ty_ix h897.2) dL_law_812 ?_
  refine W.eq (g2 := F0 m 813 ls [.int (xs (i.toInt.toNat + 1)), .ref q1]) (by rw [lw_xs (xs := xs) h897.1 hi0.1]) ?_
  clear h897 h896 h894
  refine lv_topi (fun x898 s899 => ?_)
  refine lv_aload_n hx hb dL_law_813 rfl (lv_at hl 4 rfl) ?_
  refine lv_iload hx hb dL_law_814 (lv_at hl 0 rfl) ?_
  refine ty_iconst hx hb (2) dL_law_816 (by decide) (fun x900 h901 => ?_)
  refine ty_iadd hx hb dL_law_817 (fun x902 h903 => ?_)
  have h904 := lw_ix (k := 2) h901 h903 hi0 hiL hLN (by decide)
  refine va_sld hx hb hXs hbl hbA hS (i := x902) (ty_ix h904.2) dL_law_818 ?_
  refine W.eq (g2 := F0 m 819 ls [.int (xs (i.toInt.toNat + 2)), .int x898, .ref q1]) (by rw [lw_xs (xs := xs) h904.1 hi0.1]) ?_
  clear h904 h903 h901
  refine lv_topi (fun x905 s906 => ?_)
  refine lv_aload_n hx hb dL_law_819 rfl (lv_at hl 4 rfl) ?_
  refine lv_iload hx hb dL_law_820 (lv_at hl 0 rfl) ?_
  refine ty_iconst hx hb (3) dL_law_822 (by decide) (fun x907 h908 => ?_)
  refine ty_iadd hx hb dL_law_823 (fun x909 h910 => ?_)
  have h911 := lw_ix (k := 3) h908 h910 hi0 hiL hLN (by decide)
  refine va_sld hx hb hXs hbl hbA hS (i := x909) (ty_ix h911.2) dL_law_824 ?_
  refine W.eq (g2 := F0 m 825 ls [.int (xs (i.toInt.toNat + 3)), .int x905, .int x898, .ref q1]) (by rw [lw_xs (xs := xs) h911.1 hi0.1]) ?_
  clear h911 h910 h908
  refine lv_topi (fun x912 s913 => ?_)
  refine ty_if_eq (tgt := 832) hx hb dL_law_825 (by decide) (fun c914 => ?_) (fun c914 => ?_)
  · skip
    refine ty_iconst hx hb (0) dL_law_832 (by decide) (fun x915 h916 => ?_)
    refine cI (va_runV (C := RX8) (As := [.int x898, .int x905, .int x915]) (rest := []) ⟨hx, hb, hml, hown, hA⟩ (k_X8_dies l dC dI dA sz X Γ hU g q1 t_q1 x898 x905 x915   (RL_1 hRL) (RL_2 hRL) (RL_3 hRL) (RL_ow hRL)) ⟨callB_of 3 hA (al_A wd_3_236) rfl rfl rfl (hA _ wd_1_1) (hA _ wd_3_233) (by decide +kernel) ⟨Nat.le_of_ble_eq_true rfl, Nat.le_of_ble_eq_true rfl⟩, hA _ wd_3_234, hA _ wd_3_235⟩ ⟨bl, recv_X8 hE hG t_q1, fun U hU9 hW9 => ⟨rfl, by rw [hU9]; exact hG, hE.go hS hU9 hW9⟩⟩ rfl rfl hl.1 rfl (lv_room (Nat.le_of_ble_eq_true rfl)) dL_law_833 ⟨(Nat.le_trans (show kc + 0 ≤ 300000 by omega) (Nat.le_of_ble_eq_true rfl)), (Nat.le_trans (show ks + 0 ≤ 300000 by omega) (Nat.le_of_ble_eq_true rfl))⟩) hS (fun x919 u917 H locs w918 hG hS => ?_)
    obtain ⟨hf922, hq920, hq921⟩ := w918
    replace hq920 := HD.mk hq920
    replace hq921 := HD.mk hq921
    have hw923 : ∀ c, c ∉ ([43, 51, 53, 54, 56, 65] : List Nat) → u917 c = g c := fun c hc => funext fun j => hf922 c j (fun q => hc (by rw [q]; decide)) (fun q => hc (by rw [q]; decide)) (fun q => hc (by rw [q]; decide)) (fun q => hc (by rw [q]; decide)) (fun q => hc (by rw [q]; decide)) (fun q => hc (by rw [q]; decide))
    have hb924 : Bd Γ u917 := Bd_e hBd (hw923 33 (by decide)) (hw923 34 (by decide)) (hw923 35 (by decide))
    have hj925 : IJ u917 := IJ_e hIJ (hw923 126 (by decide)) (hw923 132 (by decide)) (hw923 134 (by decide))
    refine lv_aload_n hx hb dL_law_836 rfl (lv_at hl 2 rfl) ?_
    refine lv_aload_n hx hb dL_law_837 rfl (lv_at hl 4 rfl) ?_
    refine lv_iload hx hb dL_law_838 (lv_at hl 0 rfl) ?_
    refine ty_iconst hx hb (1) dL_law_840 (by decide) (fun x926 h927 => ?_)
    refine ty_iadd hx hb dL_law_841 (fun x928 h929 => ?_)
    have h930 := lw_ix (k := 1) h927 h929 hi0 hiL hLN (by decide)
    refine va_sld hx hb hXs hbl hbA hS (i := x928) (ty_ix h930.2) dL_law_842 ?_
    refine W.eq (g2 := F0 m 843 ls [.int (xs (i.toInt.toNat + 1)), .ref q13, .int x919]) (by rw [lw_xs (xs := xs) h930.1 hi0.1]) ?_
    clear h930 h929 h927
    refine W.eq (g2 := F0 m 843 ls [.int x898, .ref q13, .int x919]) (by rw [s899]) ?_
    refine lv_aload_n hx hb dL_law_843 rfl (lv_at hl 4 rfl) ?_
    refine lv_iload hx hb dL_law_844 (lv_at hl 0 rfl) ?_
    refine ty_iconst hx hb (2) dL_law_846 (by decide) (fun x931 h932 => ?_)
    refine ty_iadd hx hb dL_law_847 (fun x933 h934 => ?_)
    have h935 := lw_ix (k := 2) h932 h934 hi0 hiL hLN (by decide)
    refine va_sld hx hb hXs hbl hbA hS (i := x933) (ty_ix h935.2) dL_law_848 ?_
    refine W.eq (g2 := F0 m 849 ls [.int (xs (i.toInt.toNat + 2)), .int x898, .ref q13, .int x919]) (by rw [lw_xs (xs := xs) h935.1 hi0.1]) ?_
    clear h935 h934 h932
    refine W.eq (g2 := F0 m 849 ls [.int x905, .int x898, .ref q13, .int x919]) (by rw [s906]) ?_
    refine lv_aload_n hx hb dL_law_849 rfl (lv_at hl 4 rfl) ?_
    refine lv_iload hx hb dL_law_850 (lv_at hl 0 rfl) ?_
    refine ty_iconst hx hb (3) dL_law_852 (by decide) (fun x936 h937 => ?_)
    refine ty_iadd hx hb dL_law_853 (fun x938 h939 => ?_)
    have h940 := lw_ix (k := 3) h937 h939 hi0 hiL hLN (by decide)
    refine va_sld hx hb hXs hbl hbA hS (i := x938) (ty_ix h940.2) dL_law_854 ?_
    refine W.eq (g2 := F0 m 855 ls [.int (xs (i.toInt.toNat + 3)), .int x905, .int x898, .ref q13, .int x919]) (by rw [lw_xs (xs := xs) h940.1 hi0.1]) ?_
    clear h940 h939 h937
    refine W.eq (g2 := F0 m 855 ls [.int x912, .int x905, .int x898, .ref q13, .int x919]) (by rw [s913]) ?_
    refine ty_if_eq (tgt := 862) hx hb dL_law_855 (by decide) (fun c941 => ?_) (fun c941 => ?_)
    · skip
      refine ty_iconst hx hb (0) dL_law_862 (by decide) (fun x942 h943 => ?_)
      have ha944 : x942 = x915 := ty_eq32.mpr (by omega)
      refine cI (va_runV (C := RX9) (As := [.int x898, .int x905, .int x942]) (rest := [.int x919]) ⟨hx, hb, hml, hown, hA⟩ (k_X9_dies l dC dI dA sz X Γ hU u917 q13 t_q13 x898 x905 x942   (RM_104 hRL (hw923 104 (by decide))) (RM_126 hRL (hw923 126 (by decide))) (RM_122 hRL (hw923 122 (by decide))) (hj925)) ⟨callB_of 3 hA (al_A wd_5_205) rfl rfl rfl (hA _ wd_1_7) (hA _ wd_5_202) (by decide +kernel) ⟨Nat.le_of_ble_eq_true rfl, Nat.le_of_ble_eq_true rfl⟩, hA _ wd_5_203, hA _ wd_5_204⟩ ⟨bl, recv_X9 hE hG t_q13, fun U hU9 hW9 => ⟨rfl, by rw [hU9]; exact hG, hE.go hS hU9 hW9⟩⟩ rfl rfl hl.1 rfl (lv_room (Nat.le_of_ble_eq_true rfl)) dL_law_863 ⟨(Nat.le_trans (show kc + 0 ≤ 300000 by omega) (Nat.le_of_ble_eq_true rfl)), (Nat.le_trans (show ks + 0 ≤ 300000 by omega) (Nat.le_of_ble_eq_true rfl))⟩) hS (fun x947 u945 H locs w946 hG hS => ?_)
      obtain ⟨hf950, hq948, hq949⟩ := w946
      try rw [ha944] at hq949
      replace hq949 := HD.mk hq949
      have hw951 : ∀ c, c ∉ ([100, 106, 108, 109, 132, 135] : List Nat) → u945 c = u917 c := fun c hc => funext fun j => hf950 c j (fun q => hc (by rw [q]; decide)) (fun q => hc (by rw [q]; decide)) (fun q => hc (by rw [q]; decide)) (fun q => hc (by rw [q]; decide)) (fun q => hc (by rw [q]; decide)) (fun q => hc (by rw [q]; decide))
      have hst952 := st_dies (g := g) (u1 := u917) (u2 := u945) (r1 := x919) (r2 := x947) hRL hw923 hw951 hq920.v hq921.v hq949.v
      have hrr953 := hst952.2
      refine ty_icmp_eq (tgt := 1047) hx hb dL_law_866 (by decide) (fun c954 => ?_) (fun c954 => ?_)
      · skip
        obtain ⟨x955, h956⟩ : ∃ y : Int32, y = i + Int32.ofInt (6) := ⟨_, rfl⟩
        try have h957 : x955.toInt = i.toInt + (6) := ty_inc h956 (by decide) (by omega) (by omega)
        refine lv_iinc (v := x955) (lv' := [(4, .int x955), (3, .ref q29), (2, .ref q13), (1, .ref q1), (0, .ref b)]) hx hb dL_law_1047 hl (k := 0) rfl h956.symm (by decide) rfl (fun ls hl => ?_)
        refine lv_goto (tgt := 23) hx hb dL_law_1050 (by decide) ?_
        exact ih x955 Γ u945 (kc) (ks) _ _ ls (by omega) (by omega) (by have a9 := congrFun (hw951 4 (by decide)) 0; have b9 := congrFun (hw923 4 (by decide)) 0; omega) hst952.1 hq948 (Bd_e hb924 (hw951 33 (by decide)) (hw951 34 (by decide)) (hw951 35 (by decide))) hU t_q1 t_q13 t_q29 (by omega) (by omega) hG hS (lv_sub hl [0, 1, 2, 3, 4] rfl)
      · exfalso; omega
    · exfalso; omega
  · skip
    refine ty_iconst hx hb (1) dL_law_828 (by decide) (fun x958 h959 => ?_)
    refine lv_goto (tgt := 833) hx hb dL_law_829 (by decide) ?_
    refine cI (va_runV (C := RX8) (As := [.int x898, .int x905, .int x958]) (rest := []) ⟨hx, hb, hml, hown, hA⟩ (k_X8_dies l dC dI dA sz X Γ hU g q1 t_q1 x898 x905 x958   (RL_1 hRL) (RL_2 hRL) (RL_3 hRL) (RL_ow hRL)) ⟨callB_of 3 hA (al_A wd_3_236) rfl rfl rfl (hA _ wd_1_1) (hA _ wd_3_233) (by decide +kernel) ⟨Nat.le_of_ble_eq_true rfl, Nat.le_of_ble_eq_true rfl⟩, hA _ wd_3_234, hA _ wd_3_235⟩ ⟨bl, recv_X8 hE hG t_q1, fun U hU9 hW9 => ⟨rfl, by rw [hU9]; exact hG, hE.go hS hU9 hW9⟩⟩ rfl rfl hl.1 rfl (lv_room (Nat.le_of_ble_eq_true rfl)) dL_law_833 ⟨(Nat.le_trans (show kc + 0 ≤ 300000 by omega) (Nat.le_of_ble_eq_true rfl)), (Nat.le_trans (show ks + 0 ≤ 300000 by omega) (Nat.le_of_ble_eq_true rfl))⟩) hS (fun x962 u960 H locs w961 hG hS => ?_)
    obtain ⟨hf965, hq963, hq964⟩ := w961
    replace hq963 := HD.mk hq963
    replace hq964 := HD.mk hq964
    have hw966 : ∀ c, c ∉ ([43, 51, 53, 54, 56, 65] : List Nat) → u960 c = g c := fun c hc => funext fun j => hf965 c j (fun q => hc (by rw [q]; decide)) (fun q => hc (by rw [q]; decide)) (fun q => hc (by rw [q]; decide)) (fun q => hc (by rw [q]; decide)) (fun q => hc (by rw [q]; decide)) (fun q => hc (by rw [q]; decide))
    have hb967 : Bd Γ u960 := Bd_e hBd (hw966 33 (by decide)) (hw966 34 (by decide)) (hw966 35 (by decide))
    have hj968 : IJ u960 := IJ_e hIJ (hw966 126 (by decide)) (hw966 132 (by decide)) (hw966 134 (by decide))
    refine lv_aload_n hx hb dL_law_836 rfl (lv_at hl 2 rfl) ?_
    refine lv_aload_n hx hb dL_law_837 rfl (lv_at hl 4 rfl) ?_
    refine lv_iload hx hb dL_law_838 (lv_at hl 0 rfl) ?_
    refine ty_iconst hx hb (1) dL_law_840 (by decide) (fun x969 h970 => ?_)
    refine ty_iadd hx hb dL_law_841 (fun x971 h972 => ?_)
    have h973 := lw_ix (k := 1) h970 h972 hi0 hiL hLN (by decide)
    refine va_sld hx hb hXs hbl hbA hS (i := x971) (ty_ix h973.2) dL_law_842 ?_
    refine W.eq (g2 := F0 m 843 ls [.int (xs (i.toInt.toNat + 1)), .ref q13, .int x962]) (by rw [lw_xs (xs := xs) h973.1 hi0.1]) ?_
    clear h973 h972 h970
    refine W.eq (g2 := F0 m 843 ls [.int x898, .ref q13, .int x962]) (by rw [s899]) ?_
    refine lv_aload_n hx hb dL_law_843 rfl (lv_at hl 4 rfl) ?_
    refine lv_iload hx hb dL_law_844 (lv_at hl 0 rfl) ?_
    refine ty_iconst hx hb (2) dL_law_846 (by decide) (fun x974 h975 => ?_)
    refine ty_iadd hx hb dL_law_847 (fun x976 h977 => ?_)
    have h978 := lw_ix (k := 2) h975 h977 hi0 hiL hLN (by decide)
    refine va_sld hx hb hXs hbl hbA hS (i := x976) (ty_ix h978.2) dL_law_848 ?_
    refine W.eq (g2 := F0 m 849 ls [.int (xs (i.toInt.toNat + 2)), .int x898, .ref q13, .int x962]) (by rw [lw_xs (xs := xs) h978.1 hi0.1]) ?_
    clear h978 h977 h975
    refine W.eq (g2 := F0 m 849 ls [.int x905, .int x898, .ref q13, .int x962]) (by rw [s906]) ?_
    refine lv_aload_n hx hb dL_law_849 rfl (lv_at hl 4 rfl) ?_
    refine lv_iload hx hb dL_law_850 (lv_at hl 0 rfl) ?_
    refine ty_iconst hx hb (3) dL_law_852 (by decide) (fun x979 h980 => ?_)
    refine ty_iadd hx hb dL_law_853 (fun x981 h982 => ?_)
    have h983 := lw_ix (k := 3) h980 h982 hi0 hiL hLN (by decide)
    refine va_sld hx hb hXs hbl hbA hS (i := x981) (ty_ix h983.2) dL_law_854 ?_
    refine W.eq (g2 := F0 m 855 ls [.int (xs (i.toInt.toNat + 3)), .int x905, .int x898, .ref q13, .int x962]) (by rw [lw_xs (xs := xs) h983.1 hi0.1]) ?_
    clear h983 h982 h980
    refine W.eq (g2 := F0 m 855 ls [.int x912, .int x905, .int x898, .ref q13, .int x962]) (by rw [s913]) ?_
    refine ty_if_eq (tgt := 862) hx hb dL_law_855 (by decide) (fun c984 => ?_) (fun c984 => ?_)
    · skip
      refine ty_iconst hx hb (0) dL_law_862 (by decide) (fun x985 h986 => ?_)
      exfalso; omega
    · skip
      refine ty_iconst hx hb (1) dL_law_858 (by decide) (fun x987 h988 => ?_)
      refine lv_goto (tgt := 863) hx hb dL_law_859 (by decide) ?_
      have ha989 : x987 = x958 := ty_eq32.mpr (by omega)
      refine cI (va_runV (C := RX9) (As := [.int x898, .int x905, .int x987]) (rest := [.int x962]) ⟨hx, hb, hml, hown, hA⟩ (k_X9_dies l dC dI dA sz X Γ hU u960 q13 t_q13 x898 x905 x987   (RM_104 hRL (hw966 104 (by decide))) (RM_126 hRL (hw966 126 (by decide))) (RM_122 hRL (hw966 122 (by decide))) (hj968)) ⟨callB_of 3 hA (al_A wd_5_205) rfl rfl rfl (hA _ wd_1_7) (hA _ wd_5_202) (by decide +kernel) ⟨Nat.le_of_ble_eq_true rfl, Nat.le_of_ble_eq_true rfl⟩, hA _ wd_5_203, hA _ wd_5_204⟩ ⟨bl, recv_X9 hE hG t_q13, fun U hU9 hW9 => ⟨rfl, by rw [hU9]; exact hG, hE.go hS hU9 hW9⟩⟩ rfl rfl hl.1 rfl (lv_room (Nat.le_of_ble_eq_true rfl)) dL_law_863 ⟨(Nat.le_trans (show kc + 0 ≤ 300000 by omega) (Nat.le_of_ble_eq_true rfl)), (Nat.le_trans (show ks + 0 ≤ 300000 by omega) (Nat.le_of_ble_eq_true rfl))⟩) hS (fun x992 u990 H locs w991 hG hS => ?_)
      obtain ⟨hf995, hq993, hq994⟩ := w991
      try rw [ha989] at hq994
      replace hq994 := HD.mk hq994
      have hw996 : ∀ c, c ∉ ([100, 106, 108, 109, 132, 135] : List Nat) → u990 c = u960 c := fun c hc => funext fun j => hf995 c j (fun q => hc (by rw [q]; decide)) (fun q => hc (by rw [q]; decide)) (fun q => hc (by rw [q]; decide)) (fun q => hc (by rw [q]; decide)) (fun q => hc (by rw [q]; decide)) (fun q => hc (by rw [q]; decide))
      have hst997 := st_dies (g := g) (u1 := u960) (u2 := u990) (r1 := x962) (r2 := x992) hRL hw966 hw996 hq963.v hq964.v hq994.v
      have hrr998 := hst997.2
      refine ty_icmp_eq (tgt := 1047) hx hb dL_law_866 (by decide) (fun c999 => ?_) (fun c999 => ?_)
      · skip
        obtain ⟨x1000, h1001⟩ : ∃ y : Int32, y = i + Int32.ofInt (6) := ⟨_, rfl⟩
        try have h1002 : x1000.toInt = i.toInt + (6) := ty_inc h1001 (by decide) (by omega) (by omega)
        refine lv_iinc (v := x1000) (lv' := [(4, .int x1000), (3, .ref q29), (2, .ref q13), (1, .ref q1), (0, .ref b)]) hx hb dL_law_1047 hl (k := 0) rfl h1001.symm (by decide) rfl (fun ls hl => ?_)
        refine lv_goto (tgt := 23) hx hb dL_law_1050 (by decide) ?_
        exact ih x1000 Γ u990 (kc) (ks) _ _ ls (by omega) (by omega) (by have a9 := congrFun (hw996 4 (by decide)) 0; have b9 := congrFun (hw966 4 (by decide)) 0; omega) hst997.1 hq993 (Bd_e hb967 (hw996 33 (by decide)) (hw996 34 (by decide)) (hw996 35 (by decide))) hU t_q1 t_q13 t_q29 (by omega) (by omega) hG hS (lv_sub hl [0, 1, 2, 3, 4] rfl)
      · exfalso; omega
set_option maxHeartbeats 40000000 in
set_option maxRecDepth 100000 in
/-- the law's case 19 -/
theorem law_c19 {p : Program} {e : Env} {s : State} {m : MethodId} {below : List Frame} {meth : Method} {c : Code} (l : Launch) (hl9 : l.stackTraces = false) {b L : Nat} {xs : Nat → Int32} (hLN : L ≤ 3072) (hx : p.tables.exec = Jvm.exec) (hb : c.code = code) (hr : meth.sig.returnType = ret) (hml : c.maxLocals = 7) (hown : s.vm.findClass R_law = some m.cls) (hA : ∀ w ∈ AL, w.before #[Value.ref b] s = true) (hXs : va_X b L xs s s.heap) (hbl : b < s.heap.size) (hlocks : meth.locks = false) {dC : Nat → ClassId} {dI : Nat → Nat → Nat} {dA : Nat → ClassId} {sz : Nat} (hE : en dC dI dA sz s) (hsz : sz = s.heap.size) (hbA : ¬ ty_A sz b) (X : va_W) (q1 q13 q29 : Nat) (n : Nat) (ih : LJ p l e s m below meth c b dC dI dA sz X q1 q13 q29 n) (i : Int32) (Γ : ty_G) (g : gh) (kc ks : Nat) (H : Heap) (locs : List Loc) (ls : Array Slot) (hm : (3073 - i.toInt : Int) < (n + 1 : Nat)) (hi0 : 0 ≤ i.toInt ∧ i.toInt ≤ 3072) (hy4 : g 4 0 ≤ i.toInt) (hRL : RLA g) (hIJ : IJ g) (hBd : Bd Γ g) (hU : Un Γ) (t_q1 : ty Γ q1 1) (t_q13 : ty Γ q13 30) (t_q29 : ty Γ q29 25) (hkc : kc ≤ 300 + i.toInt.toNat) (hks : ks ≤ 30000 + 28 * i.toInt.toNat) (hG : ty_ok (dC, dI) vwCl Γ (TP dA Γ g) sz X H) (hS : va_S (ty_A sz) s.heap H locs) (hl : lv_has ls 7 [(4, .int i), (3, .ref q29), (2, .ref q13), (1, .ref q1), (0, .ref b)]) (hiL : i.toInt + 6 ≤ (L : Int)) : W p l e room_1 s m #[Value.ref b] below meth c H locs kc ks (lw_Z below #[Value.ref b] s) (F0 m 871 ls []) := by
  refine lv_aload_n hx hb dL_law_871 rfl (lv_at hl 3 rfl) ?_
  refine lv_aload_n hx hb dL_law_872 rfl (lv_at hl 4 rfl) ?_
  refine lv_iload hx hb dL_law_873 (lv_at hl 0 rfl) ?_
  refine ty_iconst hx hb (1) dL_law_875 (by decide) (fun x1003 h1004 => ?_)
  refine ty_iadd hx hb dL_law_876 (fun x1005 h1006 => ?_)
  have h1007 := lw_ix (k := 1) h1004 h1006 hi0 hiL hLN (by decide)
  refine va_sld hx hb hXs hbl hbA hS (i := x1005) (ty_ix h1007.2) dL_law_877 ?_
  refine W.eq (g2 := F0 m 878 ls [.int (xs (i.toInt.toNat + 1)), .ref q1]) (by rw [lw_xs (xs := xs) h1007.1 hi0.1]) ?_
  clear h1007 h1006 h1004
  refine lv_topi (fun x1008 s1009 => ?_)
  refine lv_aload_n hx hb dL_law_878 rfl (lv_at hl 4 rfl) ?_
  refine lv_iload hx hb dL_law_879 (lv_at hl 0 rfl) ?_
  refine ty_iconst hx hb (2) dL_law_881 (by decide) (fun x1010 h1011 => ?_)
  refine ty_iadd hx hb dL_law_882 (fun x1012 h1013 => ?_)
  have h1014 := lw_ix (k := 2) h1011 h1013 hi0 hiL hLN (by decide)
  refine va_sld hx hb hXs hbl hbA hS (i := x1012) (ty_ix h1014.2) dL_law_883 ?_
  refine W.eq (g2 := F0 m 884 ls [.int (xs (i.toInt.toNat + 2)), .int x1008, .ref q1]) (by rw [lw_xs (xs := xs) h1014.1 hi0.1]) ?_
  clear h1014 h1013 h1011
  refine lv_topi (fun x1015 s1016 => ?_)
  refine cI (va_runV (C := RX8) (As := [.int x1008, .int x1015]) (rest := []) ⟨hx, hb, hml, hown, hA⟩ (k_X8_fees l dC dI dA sz X Γ hU g q1 t_q1 x1008 x1015   (RL_2 hRL)) ⟨callB_of 2 hA (al_A wd_4_4) rfl rfl rfl (hA _ wd_1_1) (hA _ wd_4_1) (by decide +kernel) ⟨Nat.le_of_ble_eq_true rfl, Nat.le_of_ble_eq_true rfl⟩, hA _ wd_4_2, hA _ wd_4_3⟩ ⟨bl, recv_X8 hE hG t_q1, fun U hU9 hW9 => ⟨rfl, by rw [hU9]; exact hG, hE.go hS hU9 hW9⟩⟩ rfl rfl hl.1 rfl (lv_room (Nat.le_of_ble_eq_true rfl)) dL_law_884 ⟨(Nat.le_trans (show kc + 0 ≤ 300000 by omega) (Nat.le_of_ble_eq_true rfl)), (Nat.le_trans (show ks + 0 ≤ 300000 by omega) (Nat.le_of_ble_eq_true rfl))⟩) hS (fun x1019 u1017 H locs w1018 hG hS => ?_)
  have hf1020 := w1018
  have hw1021 : ∀ c, c ∉ ([30, 31, 32] : List Nat) → u1017 c = g c := fun c hc => funext fun j => hf1020 c j (fun q => hc (by rw [q]; decide)) (fun q => hc (by rw [q]; decide)) (fun q => hc (by rw [q]; decide))
  have hb1022 : Bd Γ u1017 := Bd_e hBd (hw1021 33 (by decide)) (hw1021 34 (by decide)) (hw1021 35 (by decide))
  have hj1023 : IJ u1017 := IJ_e hIJ (hw1021 126 (by decide)) (hw1021 132 (by decide)) (hw1021 134 (by decide))
  refine lv_pop hx hb dL_law_887 rfl ?_
  refine lv_aload_n hx hb dL_law_888 rfl (lv_at hl 2 rfl) ?_
  refine lv_aload_n hx hb dL_law_889 rfl (lv_at hl 4 rfl) ?_
  refine lv_iload hx hb dL_law_890 (lv_at hl 0 rfl) ?_
  refine ty_iconst hx hb (1) dL_law_892 (by decide) (fun x1024 h1025 => ?_)
  refine ty_iadd hx hb dL_law_893 (fun x1026 h1027 => ?_)
  have h1028 := lw_ix (k := 1) h1025 h1027 hi0 hiL hLN (by decide)
  refine va_sld hx hb hXs hbl hbA hS (i := x1026) (ty_ix h1028.2) dL_law_894 ?_
  refine W.eq (g2 := F0 m 895 ls [.int (xs (i.toInt.toNat + 1)), .ref q13]) (by rw [lw_xs (xs := xs) h1028.1 hi0.1]) ?_
  clear h1028 h1027 h1025
  refine W.eq (g2 := F0 m 895 ls [.int x1008, .ref q13]) (by rw [s1009]) ?_
  refine lv_aload_n hx hb dL_law_895 rfl (lv_at hl 4 rfl) ?_
  refine lv_iload hx hb dL_law_896 (lv_at hl 0 rfl) ?_
  refine ty_iconst hx hb (2) dL_law_898 (by decide) (fun x1029 h1030 => ?_)
  refine ty_iadd hx hb dL_law_899 (fun x1031 h1032 => ?_)
  have h1033 := lw_ix (k := 2) h1030 h1032 hi0 hiL hLN (by decide)
  refine va_sld hx hb hXs hbl hbA hS (i := x1031) (ty_ix h1033.2) dL_law_900 ?_
  refine W.eq (g2 := F0 m 901 ls [.int (xs (i.toInt.toNat + 2)), .int x1008, .ref q13]) (by rw [lw_xs (xs := xs) h1033.1 hi0.1]) ?_
  clear h1033 h1032 h1030
  refine W.eq (g2 := F0 m 901 ls [.int x1015, .int x1008, .ref q13]) (by rw [s1016]) ?_
  refine cI (va_runV (C := RX9) (As := [.int x1008, .int x1015]) (rest := []) ⟨hx, hb, hml, hown, hA⟩ (k_X9_fees l dC dI dA sz X Γ hU u1017 q13 t_q13 x1008 x1015   (RM_104 hRL (hw1021 104 (by decide)))) ⟨callB_of 2 hA (al_A wd_5_213) rfl rfl rfl (hA _ wd_1_7) (hA _ wd_5_210) (by decide +kernel) ⟨Nat.le_of_ble_eq_true rfl, Nat.le_of_ble_eq_true rfl⟩, hA _ wd_5_211, hA _ wd_5_212⟩ ⟨bl, recv_X9 hE hG t_q13, fun U hU9 hW9 => ⟨rfl, by rw [hU9]; exact hG, hE.go hS hU9 hW9⟩⟩ rfl rfl hl.1 rfl (lv_room (Nat.le_of_ble_eq_true rfl)) dL_law_901 ⟨(Nat.le_trans (show kc + 0 ≤ 300000 by omega) (Nat.le_of_ble_eq_true rfl)), (Nat.le_trans (show ks + 0 ≤ 300000 by omega) (Nat.le_of_ble_eq_true rfl))⟩) hS (fun x1036 u1034 H locs w1035 hG hS => ?_)
  have hf1037 := w1035
  have hw1038 : ∀ c, c ∉ ([100, 146] : List Nat) → u1034 c = u1017 c := fun c hc => funext fun j => hf1037 c j (fun q => hc (by rw [q]; decide)) (fun q => hc (by rw [q]; decide))
  have hst1039 := st_fees (p1 := x1008) (p2 := x1015) (r1 := x1019) (r2 := x1036) (g := g) (u1 := u1017) (u2 := u1034) hRL hw1021 hw1038
  refine lv_pop hx hb dL_law_904 rfl ?_
  refine lv_goto (tgt := 1047) hx hb dL_law_905 (by decide) ?_
  obtain ⟨x1040, h1041⟩ : ∃ y : Int32, y = i + Int32.ofInt (6) := ⟨_, rfl⟩
  try have h1042 : x1040.toInt = i.toInt + (6) := ty_inc h1041 (by decide) (by omega) (by omega)
  refine lv_iinc (v := x1040) (lv' := [(4, .int x1040), (3, .ref q29), (2, .ref q13), (1, .ref q1), (0, .ref b)]) hx hb dL_law_1047 hl (k := 0) rfl h1041.symm (by decide) rfl (fun ls hl => ?_)
  refine lv_goto (tgt := 23) hx hb dL_law_1050 (by decide) ?_
  exact ih x1040 Γ u1034 (kc) (ks) _ _ ls (by omega) (by omega) (by have a9 := congrFun (hw1038 4 (by decide)) 0; have b9 := congrFun (hw1021 4 (by decide)) 0; omega) hst1039 (IJ_e hj1023 (hw1038 126 (by decide)) (hw1038 132 (by decide)) (hw1038 134 (by decide))) (Bd_e hb1022 (hw1038 33 (by decide)) (hw1038 34 (by decide)) (hw1038 35 (by decide))) hU t_q1 t_q13 t_q29 (by omega) (by omega) hG hS (lv_sub hl [0, 1, 2, 3, 4] rfl)
set_option maxHeartbeats 40000000 in
set_option maxRecDepth 100000 in
/-- the law's case 20 -/
theorem law_c20 {p : Program} {e : Env} {s : State} {m : MethodId} {below : List Frame} {meth : Method} {c : Code} (l : Launch) (hl9 : l.stackTraces = false) {b L : Nat} {xs : Nat → Int32} (hLN : L ≤ 3072) (hx : p.tables.exec = Jvm.exec) (hb : c.code = code) (hr : meth.sig.returnType = ret) (hml : c.maxLocals = 7) (hown : s.vm.findClass R_law = some m.cls) (hA : ∀ w ∈ AL, w.before #[Value.ref b] s = true) (hXs : va_X b L xs s s.heap) (hbl : b < s.heap.size) (hlocks : meth.locks = false) {dC : Nat → ClassId} {dI : Nat → Nat → Nat} {dA : Nat → ClassId} {sz : Nat} (hE : en dC dI dA sz s) (hsz : sz = s.heap.size) (hbA : ¬ ty_A sz b) (X : va_W) (q1 q13 q29 : Nat) (n : Nat) (ih : LJ p l e s m below meth c b dC dI dA sz X q1 q13 q29 n) (i : Int32) (Γ : ty_G) (g : gh) (kc ks : Nat) (H : Heap) (locs : List Loc) (ls : Array Slot) (hm : (3073 - i.toInt : Int) < (n + 1 : Nat)) (hi0 : 0 ≤ i.toInt ∧ i.toInt ≤ 3072) (hy4 : g 4 0 ≤ i.toInt) (hRL : RLA g) (hIJ : IJ g) (hBd : Bd Γ g) (hU : Un Γ) (t_q1 : ty Γ q1 1) (t_q13 : ty Γ q13 30) (t_q29 : ty Γ q29 25) (hkc : kc ≤ 300 + i.toInt.toNat) (hks : ks ≤ 30000 + 28 * i.toInt.toNat) (hG : ty_ok (dC, dI) vwCl Γ (TP dA Γ g) sz X H) (hS : va_S (ty_A sz) s.heap H locs) (hl : lv_has ls 7 [(4, .int i), (3, .ref q29), (2, .ref q13), (1, .ref q1), (0, .ref b)]) (hiL : i.toInt + 6 ≤ (L : Int)) : W p l e room_1 s m #[Value.ref b] below meth c H locs kc ks (lw_Z below #[Value.ref b] s) (F0 m 908 ls []) := by
  refine lv_aload_n hx hb dL_law_908 rfl (lv_at hl 3 rfl) ?_
  refine lv_aload_n hx hb dL_law_909 rfl (lv_at hl 4 rfl) ?_
  refine lv_iload hx hb dL_law_910 (lv_at hl 0 rfl) ?_
  refine ty_iconst hx hb (1) dL_law_912 (by decide) (fun x1043 h1044 => ?_)
  refine ty_iadd hx hb dL_law_913 (fun x1045 h1046 => ?_)
  have h1047 := lw_ix (k := 1) h1044 h1046 hi0 hiL hLN (by decide)
  refine va_sld hx hb hXs hbl hbA hS (i := x1045) (ty_ix h1047.2) dL_law_914 ?_
  refine W.eq (g2 := F0 m 915 ls [.int (xs (i.toInt.toNat + 1)), .ref q1]) (by rw [lw_xs (xs := xs) h1047.1 hi0.1]) ?_
  clear h1047 h1046 h1044
  refine lv_topi (fun x1048 s1049 => ?_)
  refine lv_aload_n hx hb dL_law_915 rfl (lv_at hl 4 rfl) ?_
  refine lv_iload hx hb dL_law_916 (lv_at hl 0 rfl) ?_
  refine ty_iconst hx hb (2) dL_law_918 (by decide) (fun x1050 h1051 => ?_)
  refine ty_iadd hx hb dL_law_919 (fun x1052 h1053 => ?_)
  have h1054 := lw_ix (k := 2) h1051 h1053 hi0 hiL hLN (by decide)
  refine va_sld hx hb hXs hbl hbA hS (i := x1052) (ty_ix h1054.2) dL_law_920 ?_
  refine W.eq (g2 := F0 m 921 ls [.int (xs (i.toInt.toNat + 2)), .int x1048, .ref q1]) (by rw [lw_xs (xs := xs) h1054.1 hi0.1]) ?_
  clear h1054 h1053 h1051
  refine lv_topi (fun x1055 s1056 => ?_)
  refine cI (va_runV (C := RX8) (As := [.int x1048, .int x1055]) (rest := []) ⟨hx, hb, hml, hown, hA⟩ (k_X8_party l dC dI dA sz X Γ hU g q1 t_q1 x1048 x1055   (RL_1 hRL)) ⟨callB_of 2 hA (al_A wd_4_33) rfl rfl rfl (hA _ wd_1_1) (hA _ wd_4_30) (by decide +kernel) ⟨Nat.le_of_ble_eq_true rfl, Nat.le_of_ble_eq_true rfl⟩, hA _ wd_4_31, hA _ wd_4_32⟩ ⟨bl, recv_X8 hE hG t_q1, fun U hU9 hW9 => ⟨rfl, by rw [hU9]; exact hG, hE.go hS hU9 hW9⟩⟩ rfl rfl hl.1 rfl (lv_room (Nat.le_of_ble_eq_true rfl)) dL_law_921 ⟨(Nat.le_trans (show kc + 0 ≤ 300000 by omega) (Nat.le_of_ble_eq_true rfl)), (Nat.le_trans (show ks + 0 ≤ 300000 by omega) (Nat.le_of_ble_eq_true rfl))⟩) hS (fun x1059 u1057 H locs w1058 hG hS => ?_)
  obtain ⟨eu1060, w1058⟩ := w1058
  rw [eu1060] at hG
  replace w1058 := HD.mk w1058
  refine lv_pop hx hb dL_law_924 rfl ?_
  refine lv_aload_n hx hb dL_law_925 rfl (lv_at hl 2 rfl) ?_
  refine lv_aload_n hx hb dL_law_926 rfl (lv_at hl 4 rfl) ?_
  refine lv_iload hx hb dL_law_927 (lv_at hl 0 rfl) ?_
  refine ty_iconst hx hb (1) dL_law_929 (by decide) (fun x1061 h1062 => ?_)
  refine ty_iadd hx hb dL_law_930 (fun x1063 h1064 => ?_)
  have h1065 := lw_ix (k := 1) h1062 h1064 hi0 hiL hLN (by decide)
  refine va_sld hx hb hXs hbl hbA hS (i := x1063) (ty_ix h1065.2) dL_law_931 ?_
  refine W.eq (g2 := F0 m 932 ls [.int (xs (i.toInt.toNat + 1)), .ref q13]) (by rw [lw_xs (xs := xs) h1065.1 hi0.1]) ?_
  clear h1065 h1064 h1062
  refine W.eq (g2 := F0 m 932 ls [.int x1048, .ref q13]) (by rw [s1049]) ?_
  refine lv_aload_n hx hb dL_law_932 rfl (lv_at hl 4 rfl) ?_
  refine lv_iload hx hb dL_law_933 (lv_at hl 0 rfl) ?_
  refine ty_iconst hx hb (2) dL_law_935 (by decide) (fun x1066 h1067 => ?_)
  refine ty_iadd hx hb dL_law_936 (fun x1068 h1069 => ?_)
  have h1070 := lw_ix (k := 2) h1067 h1069 hi0 hiL hLN (by decide)
  refine va_sld hx hb hXs hbl hbA hS (i := x1068) (ty_ix h1070.2) dL_law_937 ?_
  refine W.eq (g2 := F0 m 938 ls [.int (xs (i.toInt.toNat + 2)), .int x1048, .ref q13]) (by rw [lw_xs (xs := xs) h1070.1 hi0.1]) ?_
  clear h1070 h1069 h1067
  refine W.eq (g2 := F0 m 938 ls [.int x1055, .int x1048, .ref q13]) (by rw [s1056]) ?_
  refine cI (va_runV (C := RX9) (As := [.int x1048, .int x1055]) (rest := []) ⟨hx, hb, hml, hown, hA⟩ (k_X9_party l dC dI dA sz X Γ hU g q13 t_q13 x1048 x1055   (RM_101 hRL rfl) (RM_126 hRL rfl)) ⟨callB_of 2 hA (al_A wd_5_226) rfl rfl rfl (hA _ wd_1_7) (hA _ wd_5_223) (by decide +kernel) ⟨Nat.le_of_ble_eq_true rfl, Nat.le_of_ble_eq_true rfl⟩, hA _ wd_5_224, hA _ wd_5_225⟩ ⟨bl, recv_X9 hE hG t_q13, fun U hU9 hW9 => ⟨rfl, by rw [hU9]; exact hG, hE.go hS hU9 hW9⟩⟩ rfl rfl hl.1 rfl (lv_room (Nat.le_of_ble_eq_true rfl)) dL_law_938 ⟨(Nat.le_trans (show kc + 0 ≤ 300000 by omega) (Nat.le_of_ble_eq_true rfl)), (Nat.le_trans (show ks + 0 ≤ 300000 by omega) (Nat.le_of_ble_eq_true rfl))⟩) hS (fun x1073 u1071 H locs w1072 hG hS => ?_)
  obtain ⟨hf1074, w1072⟩ := w1072
  replace w1072 := HD.mk w1072
  have hw1075 : ∀ c, c ∉ ([100] : List Nat) → u1071 c = g c := fun c hc => funext fun j => hf1074 c j (fun q => hc (by rw [q]; decide))
  have hst1076 := st_party (g := g) (u1 := g) (u2 := u1071) (r1 := x1059) (r2 := x1073) hRL (fun _ _ => rfl) hw1075 w1058.v w1072.v
  have hrr1077 := hst1076.2
  refine lv_pop hx hb dL_law_941 rfl ?_
  refine lv_goto (tgt := 1047) hx hb dL_law_942 (by decide) ?_
  obtain ⟨x1078, h1079⟩ : ∃ y : Int32, y = i + Int32.ofInt (6) := ⟨_, rfl⟩
  try have h1080 : x1078.toInt = i.toInt + (6) := ty_inc h1079 (by decide) (by omega) (by omega)
  refine lv_iinc (v := x1078) (lv' := [(4, .int x1078), (3, .ref q29), (2, .ref q13), (1, .ref q1), (0, .ref b)]) hx hb dL_law_1047 hl (k := 0) rfl h1079.symm (by decide) rfl (fun ls hl => ?_)
  refine lv_goto (tgt := 23) hx hb dL_law_1050 (by decide) ?_
  exact ih x1078 Γ u1071 (kc) (ks) _ _ ls (by omega) (by omega) (by have a9 := congrFun (hw1075 4 (by decide)) 0; have b9 := True.intro; omega) hst1076.1 (IJ_e hIJ (hw1075 126 (by decide)) (hw1075 132 (by decide)) (hw1075 134 (by decide))) (Bd_e hBd (hw1075 33 (by decide)) (hw1075 34 (by decide)) (hw1075 35 (by decide))) hU t_q1 t_q13 t_q29 (by omega) (by omega) hG hS (lv_sub hl [0, 1, 2, 3, 4] rfl)
set_option maxHeartbeats 40000000 in
set_option maxRecDepth 100000 in
/-- the law's case 21 -/
theorem law_c21 {p : Program} {e : Env} {s : State} {m : MethodId} {below : List Frame} {meth : Method} {c : Code} (l : Launch) (hl9 : l.stackTraces = false) {b L : Nat} {xs : Nat → Int32} (hLN : L ≤ 3072) (hx : p.tables.exec = Jvm.exec) (hb : c.code = code) (hr : meth.sig.returnType = ret) (hml : c.maxLocals = 7) (hown : s.vm.findClass R_law = some m.cls) (hA : ∀ w ∈ AL, w.before #[Value.ref b] s = true) (hXs : va_X b L xs s s.heap) (hbl : b < s.heap.size) (hlocks : meth.locks = false) {dC : Nat → ClassId} {dI : Nat → Nat → Nat} {dA : Nat → ClassId} {sz : Nat} (hE : en dC dI dA sz s) (hsz : sz = s.heap.size) (hbA : ¬ ty_A sz b) (X : va_W) (q1 q13 q29 : Nat) (n : Nat) (ih : LJ p l e s m below meth c b dC dI dA sz X q1 q13 q29 n) (i : Int32) (Γ : ty_G) (g : gh) (kc ks : Nat) (H : Heap) (locs : List Loc) (ls : Array Slot) (hm : (3073 - i.toInt : Int) < (n + 1 : Nat)) (hi0 : 0 ≤ i.toInt ∧ i.toInt ≤ 3072) (hy4 : g 4 0 ≤ i.toInt) (hRL : RLA g) (hIJ : IJ g) (hBd : Bd Γ g) (hU : Un Γ) (t_q1 : ty Γ q1 1) (t_q13 : ty Γ q13 30) (t_q29 : ty Γ q29 25) (hkc : kc ≤ 300 + i.toInt.toNat) (hks : ks ≤ 30000 + 28 * i.toInt.toNat) (hG : ty_ok (dC, dI) vwCl Γ (TP dA Γ g) sz X H) (hS : va_S (ty_A sz) s.heap H locs) (hl : lv_has ls 7 [(4, .int i), (3, .ref q29), (2, .ref q13), (1, .ref q1), (0, .ref b)]) (hiL : i.toInt + 6 ≤ (L : Int)) : W p l e room_1 s m #[Value.ref b] below meth c H locs kc ks (lw_Z below #[Value.ref b] s) (F0 m 945 ls []) := by
  refine lv_aload_n hx hb dL_law_945 rfl (lv_at hl 3 rfl) ?_
  refine lv_aload_n hx hb dL_law_946 rfl (lv_at hl 4 rfl) ?_
  refine lv_iload hx hb dL_law_947 (lv_at hl 0 rfl) ?_
  refine ty_iconst hx hb (1) dL_law_949 (by decide) (fun x1081 h1082 => ?_)
  refine ty_iadd hx hb dL_law_950 (fun x1083 h1084 => ?_)
  have h1085 := lw_ix (k := 1) h1082 h1084 hi0 hiL hLN (by decide)
  refine va_sld hx hb hXs hbl hbA hS (i := x1083) (ty_ix h1085.2) dL_law_951 ?_
  refine W.eq (g2 := F0 m 952 ls [.int (xs (i.toInt.toNat + 1)), .ref q1]) (by rw [lw_xs (xs := xs) h1085.1 hi0.1]) ?_
  clear h1085 h1084 h1082
  refine lv_topi (fun x1086 s1087 => ?_)
  refine lv_aload_n hx hb dL_law_952 rfl (lv_at hl 4 rfl) ?_
  refine lv_iload hx hb dL_law_953 (lv_at hl 0 rfl) ?_
  refine ty_iconst hx hb (2) dL_law_955 (by decide) (fun x1088 h1089 => ?_)
  refine ty_iadd hx hb dL_law_956 (fun x1090 h1091 => ?_)
  have h1092 := lw_ix (k := 2) h1089 h1091 hi0 hiL hLN (by decide)
  refine va_sld hx hb hXs hbl hbA hS (i := x1090) (ty_ix h1092.2) dL_law_957 ?_
  refine W.eq (g2 := F0 m 958 ls [.int (xs (i.toInt.toNat + 2)), .int x1086, .ref q1]) (by rw [lw_xs (xs := xs) h1092.1 hi0.1]) ?_
  clear h1092 h1091 h1089
  refine lv_topi (fun x1093 s1094 => ?_)
  refine lv_aload_n hx hb dL_law_958 rfl (lv_at hl 1 rfl) ?_
  refine vx_calli (vx_runSX (As := [.ref q1, .int x1086, .int x1093, .ref q29]) (rest := []) ⟨hx, hb, hml, hown, hA⟩ (k_L_of l hl9 dC dI dA sz X Γ hU g q1 t_q1 x1086 x1093 q29 t_q29 (RL_3 hRL)) (vx_cwSW 4 hA (al_s4 (al wt_4_52 rfl) wd_4_50 wd_4_51 wd_1_0) rfl rfl rfl (by decide +kernel) ⟨Nat.le_of_ble_eq_true rfl, Nat.le_of_ble_eq_true rfl⟩) ⟨bl, fun U hU9 hW9 => ⟨rfl, by rw [hU9]; exact hG, hE.go hS hU9 hW9⟩⟩ rfl rfl hl.1 rfl (lv_room (Nat.le_of_ble_eq_true rfl)) dL_law_959 ⟨(Nat.le_trans (show kc + 1 ≤ 300000 by omega) (Nat.le_of_ble_eq_true rfl)), (Nat.le_trans (show ks + 6 ≤ 300000 by omega) (Nat.le_of_ble_eq_true rfl))⟩) hS (fun _ _ h => h) (fun _ h => h) (fun _ _ h => h) (fun E ce q9 u t H1 locs1 ht _ hp hB _ _ hS hce hcv hcl => hp.elim) (fun x1095 u1096 t9 H locs ht9 _ w1097 hB _ _ hS => ?_)
  have hG : ty_ok (dC, dI) vwCl Γ (TP dA Γ u1096) sz X H := by rw [← ht9]; exact hB
  rw [show u1096 = g from w1097] at hG
  clear hB
  refine lv_istore (lv' := [(5, .int x1095), (4, .int i), (3, .ref q29), (2, .ref q13), (1, .ref q1), (0, .ref b)]) hx hb dL_law_962 hl (by decide) rfl (fun ls hl => ?_)
  refine lv_aload_n hx hb dL_law_964 rfl (lv_at hl 3 rfl) ?_
  refine lv_aload_n hx hb dL_law_965 rfl (lv_at hl 5 rfl) ?_
  refine lv_iload hx hb dL_law_966 (lv_at hl 1 rfl) ?_
  refine ty_iconst hx hb (1) dL_law_968 (by decide) (fun x1098 h1099 => ?_)
  refine ty_iadd hx hb dL_law_969 (fun x1100 h1101 => ?_)
  have h1102 := lw_ix (k := 1) h1099 h1101 hi0 hiL hLN (by decide)
  refine va_sld hx hb hXs hbl hbA hS (i := x1100) (ty_ix h1102.2) dL_law_970 ?_
  refine W.eq (g2 := F0 m 971 ls [.int (xs (i.toInt.toNat + 1)), .ref q13]) (by rw [lw_xs (xs := xs) h1102.1 hi0.1]) ?_
  clear h1102 h1101 h1099
  refine W.eq (g2 := F0 m 971 ls [.int x1086, .ref q13]) (by rw [s1087]) ?_
  refine lv_aload_n hx hb dL_law_971 rfl (lv_at hl 5 rfl) ?_
  refine lv_iload hx hb dL_law_972 (lv_at hl 1 rfl) ?_
  refine ty_iconst hx hb (2) dL_law_974 (by decide) (fun x1103 h1104 => ?_)
  refine ty_iadd hx hb dL_law_975 (fun x1105 h1106 => ?_)
  have h1107 := lw_ix (k := 2) h1104 h1106 hi0 hiL hLN (by decide)
  refine va_sld hx hb hXs hbl hbA hS (i := x1105) (ty_ix h1107.2) dL_law_976 ?_
  refine W.eq (g2 := F0 m 977 ls [.int (xs (i.toInt.toNat + 2)), .int x1086, .ref q13]) (by rw [lw_xs (xs := xs) h1107.1 hi0.1]) ?_
  clear h1107 h1106 h1104
  refine W.eq (g2 := F0 m 977 ls [.int x1093, .int x1086, .ref q13]) (by rw [s1094]) ?_
  refine cI (va_runV (C := RX9) (As := [.int x1086, .int x1093]) (rest := []) ⟨hx, hb, hml, hown, hA⟩ (k_X9_of l dC dI dA sz X Γ hU g q13 t_q13 x1086 x1093   (RM_126 hRL rfl)) ⟨callB_of 2 hA (al_A wd_5_230) rfl rfl rfl (hA _ wd_1_7) (hA _ wd_5_227) (by decide +kernel) ⟨Nat.le_of_ble_eq_true rfl, Nat.le_of_ble_eq_true rfl⟩, hA _ wd_5_228, hA _ wd_5_229⟩ ⟨bl, recv_X9 hE hG t_q13, fun U hU9 hW9 => ⟨rfl, by rw [hU9]; exact hG, hE.go hS hU9 hW9⟩⟩ rfl rfl hl.1 rfl (lv_room (Nat.le_of_ble_eq_true rfl)) dL_law_977 ⟨(Nat.le_trans (show (kc + 1) + 0 ≤ 300000 by omega) (Nat.le_of_ble_eq_true rfl)), (Nat.le_trans (show (ks + 6) + 0 ≤ 300000 by omega) (Nat.le_of_ble_eq_true rfl))⟩) hS (fun x1110 u1108 H locs w1109 hG hS => ?_)
  obtain ⟨hf1112, hq1111⟩ := w1109
  replace hq1111 := HD.mk hq1111
  have hw1113 : ∀ c, c ∉ ([100] : List Nat) → u1108 c = g c := fun c hc => funext fun j => hf1112 c j (fun q => hc (by rw [q]; decide))
  have hst1114 := RL_100 hRL hw1113
  refine lv_istore (lv' := [(6, .int x1110), (5, .int x1095), (4, .int i), (3, .ref q29), (2, .ref q13), (1, .ref q1), (0, .ref b)]) hx hb dL_law_980 hl (by decide) rfl (fun ls hl => ?_)
  refine lv_goto (tgt := 1047) hx hb dL_law_982 (by decide) ?_
  obtain ⟨x1115, h1116⟩ : ∃ y : Int32, y = i + Int32.ofInt (6) := ⟨_, rfl⟩
  try have h1117 : x1115.toInt = i.toInt + (6) := ty_inc h1116 (by decide) (by omega) (by omega)
  refine lv_iinc (v := x1115) (lv' := [(4, .int x1115), (6, .int x1110), (5, .int x1095), (3, .ref q29), (2, .ref q13), (1, .ref q1), (0, .ref b)]) hx hb dL_law_1047 hl (k := 2) rfl h1116.symm (by decide) rfl (fun ls hl => ?_)
  refine lv_goto (tgt := 23) hx hb dL_law_1050 (by decide) ?_
  exact ih x1115 Γ u1108 ((kc + 1)) ((ks + 6)) _ _ ls (by omega) (by omega) (by have a9 := congrFun (hw1113 4 (by decide)) 0; have b9 := True.intro; omega) hst1114 (IJ_e hIJ (hw1113 126 (by decide)) (hw1113 132 (by decide)) (hw1113 134 (by decide))) (Bd_e hBd (hw1113 33 (by decide)) (hw1113 34 (by decide)) (hw1113 35 (by decide))) hU t_q1 t_q13 t_q29 (by omega) (by omega) hG hS (lv_sub hl [0, 3, 4, 5, 6] rfl)
set_option maxHeartbeats 40000000 in
set_option maxRecDepth 100000 in
/-- the law's case 22 -/
theorem law_c22 {p : Program} {e : Env} {s : State} {m : MethodId} {below : List Frame} {meth : Method} {c : Code} (l : Launch) (hl9 : l.stackTraces = false) {b L : Nat} {xs : Nat → Int32} (hLN : L ≤ 3072) (hx : p.tables.exec = Jvm.exec) (hb : c.code = code) (hr : meth.sig.returnType = ret) (hml : c.maxLocals = 7) (hown : s.vm.findClass R_law = some m.cls) (hA : ∀ w ∈ AL, w.before #[Value.ref b] s = true) (hXs : va_X b L xs s s.heap) (hbl : b < s.heap.size) (hlocks : meth.locks = false) {dC : Nat → ClassId} {dI : Nat → Nat → Nat} {dA : Nat → ClassId} {sz : Nat} (hE : en dC dI dA sz s) (hsz : sz = s.heap.size) (hbA : ¬ ty_A sz b) (X : va_W) (q1 q13 q29 : Nat) (n : Nat) (ih : LJ p l e s m below meth c b dC dI dA sz X q1 q13 q29 n) (i : Int32) (Γ : ty_G) (g : gh) (kc ks : Nat) (H : Heap) (locs : List Loc) (ls : Array Slot) (hm : (3073 - i.toInt : Int) < (n + 1 : Nat)) (hi0 : 0 ≤ i.toInt ∧ i.toInt ≤ 3072) (hy4 : g 4 0 ≤ i.toInt) (hRL : RLA g) (hIJ : IJ g) (hBd : Bd Γ g) (hU : Un Γ) (t_q1 : ty Γ q1 1) (t_q13 : ty Γ q13 30) (t_q29 : ty Γ q29 25) (hkc : kc ≤ 300 + i.toInt.toNat) (hks : ks ≤ 30000 + 28 * i.toInt.toNat) (hG : ty_ok (dC, dI) vwCl Γ (TP dA Γ g) sz X H) (hS : va_S (ty_A sz) s.heap H locs) (hl : lv_has ls 7 [(4, .int i), (3, .ref q29), (2, .ref q13), (1, .ref q1), (0, .ref b)]) (hiL : i.toInt + 6 ≤ (L : Int)) : W p l e room_1 s m #[Value.ref b] below meth c H locs kc ks (lw_Z below #[Value.ref b] s) (F0 m 985 ls []) := by
  refine lv_aload_n hx hb dL_law_985 rfl (lv_at hl 3 rfl) ?_
  refine lv_aload_n hx hb dL_law_986 rfl (lv_at hl 4 rfl) ?_
  refine lv_iload hx hb dL_law_987 (lv_at hl 0 rfl) ?_
  refine ty_iconst hx hb (1) dL_law_989 (by decide) (fun x1118 h1119 => ?_)
  refine ty_iadd hx hb dL_law_990 (fun x1120 h1121 => ?_)
  have h1122 := lw_ix (k := 1) h1119 h1121 hi0 hiL hLN (by decide)
  refine va_sld hx hb hXs hbl hbA hS (i := x1120) (ty_ix h1122.2) dL_law_991 ?_
  refine W.eq (g2 := F0 m 992 ls [.int (xs (i.toInt.toNat + 1)), .ref q1]) (by rw [lw_xs (xs := xs) h1122.1 hi0.1]) ?_
  clear h1122 h1121 h1119
  refine lv_topi (fun x1123 s1124 => ?_)
  refine lv_aload_n hx hb dL_law_992 rfl (lv_at hl 4 rfl) ?_
  refine lv_iload hx hb dL_law_993 (lv_at hl 0 rfl) ?_
  refine ty_iconst hx hb (2) dL_law_995 (by decide) (fun x1125 h1126 => ?_)
  refine ty_iadd hx hb dL_law_996 (fun x1127 h1128 => ?_)
  have h1129 := lw_ix (k := 2) h1126 h1128 hi0 hiL hLN (by decide)
  refine va_sld hx hb hXs hbl hbA hS (i := x1127) (ty_ix h1129.2) dL_law_997 ?_
  refine W.eq (g2 := F0 m 998 ls [.int (xs (i.toInt.toNat + 2)), .int x1123, .ref q1]) (by rw [lw_xs (xs := xs) h1129.1 hi0.1]) ?_
  clear h1129 h1128 h1126
  refine lv_topi (fun x1130 s1131 => ?_)
  refine cI (va_runV (C := RX8) (As := [.int x1123, .int x1130]) (rest := []) ⟨hx, hb, hml, hown, hA⟩ (k_X8_ownerOf l dC dI dA sz X Γ hU g q1 t_q1 x1123 x1130   (RL_2 hRL)) ⟨callB_of 2 hA (al_A wd_4_41) rfl rfl rfl (hA _ wd_1_1) (hA _ wd_4_38) (by decide +kernel) ⟨Nat.le_of_ble_eq_true rfl, Nat.le_of_ble_eq_true rfl⟩, hA _ wd_4_39, hA _ wd_4_40⟩ ⟨bl, recv_X8 hE hG t_q1, fun U hU9 hW9 => ⟨rfl, by rw [hU9]; exact hG, hE.go hS hU9 hW9⟩⟩ rfl rfl hl.1 rfl (lv_room (Nat.le_of_ble_eq_true rfl)) dL_law_998 ⟨(Nat.le_trans (show kc + 0 ≤ 300000 by omega) (Nat.le_of_ble_eq_true rfl)), (Nat.le_trans (show ks + 0 ≤ 300000 by omega) (Nat.le_of_ble_eq_true rfl))⟩) hS (fun x1134 u1132 H locs w1133 hG hS => ?_)
  obtain ⟨eu1135, w1133⟩ := w1133
  rw [eu1135] at hG
  replace w1133 := HD.mk w1133
  refine lv_pop hx hb dL_law_1001 rfl ?_
  refine lv_aload_n hx hb dL_law_1002 rfl (lv_at hl 2 rfl) ?_
  refine lv_aload_n hx hb dL_law_1003 rfl (lv_at hl 4 rfl) ?_
  refine lv_iload hx hb dL_law_1004 (lv_at hl 0 rfl) ?_
  refine ty_iconst hx hb (1) dL_law_1006 (by decide) (fun x1136 h1137 => ?_)
  refine ty_iadd hx hb dL_law_1007 (fun x1138 h1139 => ?_)
  have h1140 := lw_ix (k := 1) h1137 h1139 hi0 hiL hLN (by decide)
  refine va_sld hx hb hXs hbl hbA hS (i := x1138) (ty_ix h1140.2) dL_law_1008 ?_
  refine W.eq (g2 := F0 m 1009 ls [.int (xs (i.toInt.toNat + 1)), .ref q13]) (by rw [lw_xs (xs := xs) h1140.1 hi0.1]) ?_
  clear h1140 h1139 h1137
  refine W.eq (g2 := F0 m 1009 ls [.int x1123, .ref q13]) (by rw [s1124]) ?_
  refine lv_aload_n hx hb dL_law_1009 rfl (lv_at hl 4 rfl) ?_
  refine lv_iload hx hb dL_law_1010 (lv_at hl 0 rfl) ?_
  refine ty_iconst hx hb (2) dL_law_1012 (by decide) (fun x1141 h1142 => ?_)
  refine ty_iadd hx hb dL_law_1013 (fun x1143 h1144 => ?_)
  have h1145 := lw_ix (k := 2) h1142 h1144 hi0 hiL hLN (by decide)
  refine va_sld hx hb hXs hbl hbA hS (i := x1143) (ty_ix h1145.2) dL_law_1014 ?_
  refine W.eq (g2 := F0 m 1015 ls [.int (xs (i.toInt.toNat + 2)), .int x1123, .ref q13]) (by rw [lw_xs (xs := xs) h1145.1 hi0.1]) ?_
  clear h1145 h1144 h1142
  refine W.eq (g2 := F0 m 1015 ls [.int x1130, .int x1123, .ref q13]) (by rw [s1131]) ?_
  refine cI (va_runV (C := RX9) (As := [.int x1123, .int x1130]) (rest := []) ⟨hx, hb, hml, hown, hA⟩ (k_X9_ownerOf l dC dI dA sz X Γ hU g q13 t_q13 x1123 x1130   (RM_104 hRL rfl)) ⟨callB_of 2 hA (al_A wd_5_234) rfl rfl rfl (hA _ wd_1_7) (hA _ wd_5_231) (by decide +kernel) ⟨Nat.le_of_ble_eq_true rfl, Nat.le_of_ble_eq_true rfl⟩, hA _ wd_5_232, hA _ wd_5_233⟩ ⟨bl, recv_X9 hE hG t_q13, fun U hU9 hW9 => ⟨rfl, by rw [hU9]; exact hG, hE.go hS hU9 hW9⟩⟩ rfl rfl hl.1 rfl (lv_room (Nat.le_of_ble_eq_true rfl)) dL_law_1015 ⟨(Nat.le_trans (show kc + 0 ≤ 300000 by omega) (Nat.le_of_ble_eq_true rfl)), (Nat.le_trans (show ks + 0 ≤ 300000 by omega) (Nat.le_of_ble_eq_true rfl))⟩) hS (fun x1148 u1146 H locs w1147 hG hS => ?_)
  obtain ⟨hf1149, w1147⟩ := w1147
  replace w1147 := HD.mk w1147
  have hw1150 : ∀ c, c ∉ ([100] : List Nat) → u1146 c = g c := fun c hc => funext fun j => hf1149 c j (fun q => hc (by rw [q]; decide))
  have hst1151 := st_ownerOf (g := g) (u1 := g) (u2 := u1146) (r1 := x1134) (r2 := x1148) hRL (fun _ _ => rfl) hw1150 w1133.v w1147.v
  have hrr1152 := hst1151.2
  refine lv_pop hx hb dL_law_1018 rfl ?_
  refine lv_goto (tgt := 1047) hx hb dL_law_1019 (by decide) ?_
  obtain ⟨x1153, h1154⟩ : ∃ y : Int32, y = i + Int32.ofInt (6) := ⟨_, rfl⟩
  try have h1155 : x1153.toInt = i.toInt + (6) := ty_inc h1154 (by decide) (by omega) (by omega)
  refine lv_iinc (v := x1153) (lv' := [(4, .int x1153), (3, .ref q29), (2, .ref q13), (1, .ref q1), (0, .ref b)]) hx hb dL_law_1047 hl (k := 0) rfl h1154.symm (by decide) rfl (fun ls hl => ?_)
  refine lv_goto (tgt := 23) hx hb dL_law_1050 (by decide) ?_
  exact ih x1153 Γ u1146 (kc) (ks) _ _ ls (by omega) (by omega) (by have a9 := congrFun (hw1150 4 (by decide)) 0; have b9 := True.intro; omega) hst1151.1 (IJ_e hIJ (hw1150 126 (by decide)) (hw1150 132 (by decide)) (hw1150 134 (by decide))) (Bd_e hBd (hw1150 33 (by decide)) (hw1150 34 (by decide)) (hw1150 35 (by decide))) hU t_q1 t_q13 t_q29 (by omega) (by omega) hG hS (lv_sub hl [0, 1, 2, 3, 4] rfl)
set_option maxHeartbeats 40000000 in
set_option maxRecDepth 100000 in
/-- the law's case 23 -/
theorem law_c23 {p : Program} {e : Env} {s : State} {m : MethodId} {below : List Frame} {meth : Method} {c : Code} (l : Launch) (hl9 : l.stackTraces = false) {b L : Nat} {xs : Nat → Int32} (hLN : L ≤ 3072) (hx : p.tables.exec = Jvm.exec) (hb : c.code = code) (hr : meth.sig.returnType = ret) (hml : c.maxLocals = 7) (hown : s.vm.findClass R_law = some m.cls) (hA : ∀ w ∈ AL, w.before #[Value.ref b] s = true) (hXs : va_X b L xs s s.heap) (hbl : b < s.heap.size) (hlocks : meth.locks = false) {dC : Nat → ClassId} {dI : Nat → Nat → Nat} {dA : Nat → ClassId} {sz : Nat} (hE : en dC dI dA sz s) (hsz : sz = s.heap.size) (hbA : ¬ ty_A sz b) (X : va_W) (q1 q13 q29 : Nat) (n : Nat) (ih : LJ p l e s m below meth c b dC dI dA sz X q1 q13 q29 n) (i : Int32) (Γ : ty_G) (g : gh) (kc ks : Nat) (H : Heap) (locs : List Loc) (ls : Array Slot) (hm : (3073 - i.toInt : Int) < (n + 1 : Nat)) (hi0 : 0 ≤ i.toInt ∧ i.toInt ≤ 3072) (hy4 : g 4 0 ≤ i.toInt) (hRL : RLA g) (hIJ : IJ g) (hBd : Bd Γ g) (hU : Un Γ) (t_q1 : ty Γ q1 1) (t_q13 : ty Γ q13 30) (t_q29 : ty Γ q29 25) (hkc : kc ≤ 300 + i.toInt.toNat) (hks : ks ≤ 30000 + 28 * i.toInt.toNat) (hG : ty_ok (dC, dI) vwCl Γ (TP dA Γ g) sz X H) (hS : va_S (ty_A sz) s.heap H locs) (hl : lv_has ls 7 [(4, .int i), (3, .ref q29), (2, .ref q13), (1, .ref q1), (0, .ref b)]) (hiL : i.toInt + 6 ≤ (L : Int)) : W p l e room_1 s m #[Value.ref b] below meth c H locs kc ks (lw_Z below #[Value.ref b] s) (F0 m 1022 ls []) := by
  refine lv_aload_n hx hb dL_law_1022 rfl (lv_at hl 3 rfl) ?_
  refine lv_aload_n hx hb dL_law_1023 rfl (lv_at hl 4 rfl) ?_
  refine lv_iload hx hb dL_law_1024 (lv_at hl 0 rfl) ?_
  refine ty_iconst hx hb (1) dL_law_1026 (by decide) (fun x1156 h1157 => ?_)
  refine ty_iadd hx hb dL_law_1027 (fun x1158 h1159 => ?_)
  have h1160 := lw_ix (k := 1) h1157 h1159 hi0 hiL hLN (by decide)
  refine va_sld hx hb hXs hbl hbA hS (i := x1158) (ty_ix h1160.2) dL_law_1028 ?_
  refine W.eq (g2 := F0 m 1029 ls [.int (xs (i.toInt.toNat + 1)), .ref q1]) (by rw [lw_xs (xs := xs) h1160.1 hi0.1]) ?_
  clear h1160 h1159 h1157
  refine lv_topi (fun x1161 s1162 => ?_)
  refine cI (va_runV (C := RX8) (As := [.int x1161]) (rest := []) ⟨hx, hb, hml, hown, hA⟩ (k_X8_count l dC dI dA sz X Γ hU g q1 t_q1 x1161   (RL_2 hRL) (RL_3 hRL)) ⟨callB_of 1 hA (al_A wd_4_45) rfl rfl rfl (hA _ wd_1_1) (hA _ wd_4_42) (by decide +kernel) ⟨Nat.le_of_ble_eq_true rfl, Nat.le_of_ble_eq_true rfl⟩, hA _ wd_4_43, hA _ wd_4_44⟩ ⟨bl, recv_X8 hE hG t_q1, fun U hU9 hW9 => ⟨rfl, by rw [hU9]; exact hG, hE.go hS hU9 hW9⟩⟩ rfl rfl hl.1 rfl (lv_room (Nat.le_of_ble_eq_true rfl)) dL_law_1029 ⟨(Nat.le_trans (show kc + 0 ≤ 300000 by omega) (Nat.le_of_ble_eq_true rfl)), (Nat.le_trans (show ks + 0 ≤ 300000 by omega) (Nat.le_of_ble_eq_true rfl))⟩) hS (fun x1165 u1163 H locs w1164 hG hS => ?_)
  obtain ⟨eu1166, w1164⟩ := w1164
  rw [eu1166] at hG
  replace w1164 := HD.mk w1164
  refine lv_pop hx hb dL_law_1032 rfl ?_
  refine lv_aload_n hx hb dL_law_1033 rfl (lv_at hl 2 rfl) ?_
  refine lv_aload_n hx hb dL_law_1034 rfl (lv_at hl 4 rfl) ?_
  refine lv_iload hx hb dL_law_1035 (lv_at hl 0 rfl) ?_
  refine ty_iconst hx hb (1) dL_law_1037 (by decide) (fun x1167 h1168 => ?_)
  refine ty_iadd hx hb dL_law_1038 (fun x1169 h1170 => ?_)
  have h1171 := lw_ix (k := 1) h1168 h1170 hi0 hiL hLN (by decide)
  refine va_sld hx hb hXs hbl hbA hS (i := x1169) (ty_ix h1171.2) dL_law_1039 ?_
  refine W.eq (g2 := F0 m 1040 ls [.int (xs (i.toInt.toNat + 1)), .ref q13]) (by rw [lw_xs (xs := xs) h1171.1 hi0.1]) ?_
  clear h1171 h1170 h1168
  refine W.eq (g2 := F0 m 1040 ls [.int x1161, .ref q13]) (by rw [s1162]) ?_
  refine cI (va_runV (C := RX9) (As := [.int x1161]) (rest := []) ⟨hx, hb, hml, hown, hA⟩ (k_X9_count l dC dI dA sz X Γ hU g q13 t_q13 x1161   (RM_104 hRL rfl) (RM_126 hRL rfl) (RM_122 hRL rfl)) ⟨callB_of 1 hA (al_A wd_5_238) rfl rfl rfl (hA _ wd_1_7) (hA _ wd_5_235) (by decide +kernel) ⟨Nat.le_of_ble_eq_true rfl, Nat.le_of_ble_eq_true rfl⟩, hA _ wd_5_236, hA _ wd_5_237⟩ ⟨bl, recv_X9 hE hG t_q13, fun U hU9 hW9 => ⟨rfl, by rw [hU9]; exact hG, hE.go hS hU9 hW9⟩⟩ rfl rfl hl.1 rfl (lv_room (Nat.le_of_ble_eq_true rfl)) dL_law_1040 ⟨(Nat.le_trans (show kc + 0 ≤ 300000 by omega) (Nat.le_of_ble_eq_true rfl)), (Nat.le_trans (show ks + 0 ≤ 300000 by omega) (Nat.le_of_ble_eq_true rfl))⟩) hS (fun x1174 u1172 H locs w1173 hG hS => ?_)
  obtain ⟨hf1175, w1173⟩ := w1173
  replace w1173 := HD.mk w1173
  have hw1176 : ∀ c, c ∉ ([100] : List Nat) → u1172 c = g c := fun c hc => funext fun j => hf1175 c j (fun q => hc (by rw [q]; decide))
  have hst1177 := st_count (g := g) (u1 := g) (u2 := u1172) (r1 := x1165) (r2 := x1174) hRL (fun _ _ => rfl) hw1176 w1164.v w1173.v
  have hrr1178 := hst1177.2
  refine lv_pop hx hb dL_law_1043 rfl ?_
  refine lv_goto (tgt := 1047) hx hb dL_law_1044 (by decide) ?_
  obtain ⟨x1179, h1180⟩ : ∃ y : Int32, y = i + Int32.ofInt (6) := ⟨_, rfl⟩
  try have h1181 : x1179.toInt = i.toInt + (6) := ty_inc h1180 (by decide) (by omega) (by omega)
  refine lv_iinc (v := x1179) (lv' := [(4, .int x1179), (3, .ref q29), (2, .ref q13), (1, .ref q1), (0, .ref b)]) hx hb dL_law_1047 hl (k := 0) rfl h1180.symm (by decide) rfl (fun ls hl => ?_)
  refine lv_goto (tgt := 23) hx hb dL_law_1050 (by decide) ?_
  exact ih x1179 Γ u1172 (kc) (ks) _ _ ls (by omega) (by omega) (by have a9 := congrFun (hw1176 4 (by decide)) 0; have b9 := True.intro; omega) hst1177.1 (IJ_e hIJ (hw1176 126 (by decide)) (hw1176 132 (by decide)) (hw1176 134 (by decide))) (Bd_e hBd (hw1176 33 (by decide)) (hw1176 34 (by decide)) (hw1176 35 (by decide))) hU t_q1 t_q13 t_q29 (by omega) (by omega) hG hS (lv_sub hl [0, 1, 2, 3, 4] rfl)
