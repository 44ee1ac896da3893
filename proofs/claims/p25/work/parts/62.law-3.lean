set_option maxHeartbeats 40000000 in
set_option maxRecDepth 100000 in
/-- the law's case 16 -/
theorem law_c16 {p : Program} {e : Env} {s : State} {m : MethodId} {below : List Frame} {meth : Method} {c : Code} (l : Launch) (hl9 : l.stackTraces = false) {b L : Nat} {xs : Nat → Int32} (hLN : L ≤ 3072) (hx : p.tables.exec = Jvm.exec) (hb : c.code = code) (hr : meth.sig.returnType = ret) (hml : c.maxLocals = 7) (hown : s.vm.findClass R_law = some m.cls) (hA : ∀ w ∈ AL, w.before #[Value.ref b] s = true) (hXs : va_X b L xs s s.heap) (hbl : b < s.heap.size) (hlocks : meth.locks = false) {dC : Nat → ClassId} {dI : Nat → Nat → Nat} {dA : Nat → ClassId} {sz : Nat} (hE : en dC dI dA sz s) (hsz : sz = s.heap.size) (hbA : ¬ ty_A sz b) (X : va_W) (q1 q13 q29 : Nat) (n : Nat) (ih : LJ p l e s m below meth c b dC dI dA sz X q1 q13 q29 n) (i : Int32) (Γ : ty_G) (g : gh) (kc ks : Nat) (H : Heap) (locs : List Loc) (ls : Array Slot) (hm : (3073 - i.toInt : Int) < (n + 1 : Nat)) (hi0 : 0 ≤ i.toInt ∧ i.toInt ≤ 3072) (hy4 : g 4 0 ≤ i.toInt) (hRL : RLA g) (hIJ : IJ g) (hBd : Bd Γ g) (hU : Un Γ) (t_q1 : ty Γ q1 1) (t_q13 : ty Γ q13 30) (t_q29 : ty Γ q29 25) (hkc : kc ≤ 300 + i.toInt.toNat) (hks : ks ≤ 30000 + 28 * i.toInt.toNat) (hG : ty_ok (dC, dI) vwCl Γ (TP dA Γ g) sz X H) (hS : va_S (ty_A sz) s.heap H locs) (hl : lv_has ls 7 [(4, .int i), (3, .ref q29), (2, .ref q13), (1, .ref q1), (0, .ref b)]) (hiL : i.toInt + 6 ≤ (L : Int)) : W p l e room_1 s m #[Value.ref b] below meth c H locs kc ks (lw_Z below #[Value.ref b] s) (F0 m 768 ls []) := by
  refine lv_aload_n hx hb dL_law_768 rfl (lv_at hl 3 rfl) ?_
  refine lv_aload_n hx hb dL_law_769 rfl (lv_at hl 4 rfl) ?_
  refine lv_iload hx hb dL_law_770 (lv_at hl 0 rfl) ?_
  refine ty_iconst hx hb (1) dL_law_772 (by decide) (fun x838 h839 => ?_)
  refine ty_iadd hx hb dL_law_773 (fun x840 h841 => ?_)
  have h842 := lw_ix (k := 1) h839 h841 hi0 hiL hLN (by decide)
  refine va_sld hx hb hXs hbl hbA hS (i := x840) (ty_ix h842.2) dL_law_774 ?_
  refine W.eq (g2 := F0 m 775 ls [.int (xs (i.toInt.toNat + 1)), .ref q1]) (by rw [lw_xs (xs := xs) h842.1 hi0.1]) ?_
  clear h842 h841 h839
  refine lv_topi (fun x843 s844 => ?_)
  refine cI (va_runV (C := RX8) (As := [.int x843]) (rest := []) ⟨hx, hb, hml, hown, hA⟩ (k_X8_weeks l dC dI dA sz X Γ hU g q1 t_q1 x843   (RL_3 hRL) (RL_5 hRL)) ⟨callB_of 1 hA (al_A wd_3_220) rfl rfl rfl (hA _ wd_1_1) (hA _ wd_3_217) (by decide +kernel) ⟨Nat.le_of_ble_eq_true rfl, Nat.le_of_ble_eq_true rfl⟩, hA _ wd_3_218, hA _ wd_3_219⟩ ⟨bl, recv_X8 hE hG t_q1, fun U hU9 hW9 => ⟨rfl, by rw [hU9]; exact hG, hE.go hS hU9 hW9⟩⟩ rfl rfl hl.1 rfl (lv_room (Nat.le_of_ble_eq_true rfl)) dL_law_775 ⟨(Nat.le_trans (show kc + 0 ≤ 300000 by omega) (Nat.le_of_ble_eq_true rfl)), (Nat.le_trans (show ks + 0 ≤ 300000 by omega) (Nat.le_of_ble_eq_true rfl))⟩) hS (fun x847 u845 H locs w846 hG hS => ?_)
  obtain ⟨hf849, w846, hq848⟩ := w846
  replace w846 := HD.mk w846
  replace hq848 := HD.mk hq848
  have hw850 : ∀ c, c ∉ ([5, 65] : List Nat) → u845 c = g c := fun c hc => funext fun j => hf849 c j (fun q => hc (by rw [q]; decide)) (fun q => hc (by rw [q]; decide))
  have hb851 : Bd Γ u845 := Bd_e hBd (hw850 33 (by decide)) (hw850 34 (by decide)) (hw850 35 (by decide))
  have hj852 : IJ u845 := IJ_e hIJ (hw850 126 (by decide)) (hw850 132 (by decide)) (hw850 134 (by decide))
  refine lv_pop hx hb dL_law_778 rfl ?_
  refine lv_aload_n hx hb dL_law_779 rfl (lv_at hl 2 rfl) ?_
  refine lv_aload_n hx hb dL_law_780 rfl (lv_at hl 4 rfl) ?_
  refine lv_iload hx hb dL_law_781 (lv_at hl 0 rfl) ?_
  refine ty_iconst hx hb (1) dL_law_783 (by decide) (fun x853 h854 => ?_)
  refine ty_iadd hx hb dL_law_784 (fun x855 h856 => ?_)
  have h857 := lw_ix (k := 1) h854 h856 hi0 hiL hLN (by decide)
  refine va_sld hx hb hXs hbl hbA hS (i := x855) (ty_ix h857.2) dL_law_785 ?_
  refine W.eq (g2 := F0 m 786 ls [.int (xs (i.toInt.toNat + 1)), .ref q13]) (by rw [lw_xs (xs := xs) h857.1 hi0.1]) ?_
  clear h857 h856 h854
  refine W.eq (g2 := F0 m 786 ls [.int x843, .ref q13]) (by rw [s844]) ?_
  refine cI (va_runV (C := RX9) (As := [.int x843]) (rest := []) ⟨hx, hb, hml, hown, hA⟩ (k_X9_weeks l dC dI dA sz X Γ hU u845 q13 t_q13 x843   (RM_126 hRL (hw850 126 (by decide))) (RM_112 hRL (hw850 112 (by decide))) (hj852)) ⟨callB_of 1 hA (al_A wd_5_193) rfl rfl rfl (hA _ wd_1_7) (hA _ wd_5_190) (by decide +kernel) ⟨Nat.le_of_ble_eq_true rfl, Nat.le_of_ble_eq_true rfl⟩, hA _ wd_5_191, hA _ wd_5_192⟩ ⟨bl, recv_X9 hE hG t_q13, fun U hU9 hW9 => ⟨rfl, by rw [hU9]; exact hG, hE.go hS hU9 hW9⟩⟩ rfl rfl hl.1 rfl (lv_room (Nat.le_of_ble_eq_true rfl)) dL_law_786 ⟨(Nat.le_trans (show kc + 0 ≤ 300000 by omega) (Nat.le_of_ble_eq_true rfl)), (Nat.le_trans (show ks + 0 ≤ 300000 by omega) (Nat.le_of_ble_eq_true rfl))⟩) hS (fun x860 u858 H locs w859 hG hS => ?_)
  obtain ⟨hf863, w859, hq861, hq862⟩ := w859
  replace w859 := HD.mk w859
  replace hq862 := HD.mk hq862
  have hw864 : ∀ c, c ∉ ([100, 112, 132] : List Nat) → u858 c = u845 c := fun c hc => funext fun j => hf863 c j (fun q => hc (by rw [q]; decide)) (fun q => hc (by rw [q]; decide)) (fun q => hc (by rw [q]; decide))
  have hst865 := st_weeks (g := g) (u1 := u845) (u2 := u858) (r1 := x847) (r2 := x860) hRL hw850 hw864 w846.v.1 w846.v.2 hq848.v w859.v.1 w859.v.2 hq862.v
  have hrr866 := hst865.2
  refine lv_pop hx hb dL_law_789 rfl ?_
  refine lv_goto (tgt := 1047) hx hb dL_law_790 (by decide) ?_
  obtain ⟨x867, h868⟩ : ∃ y : Int32, y = i + Int32.ofInt (6) := ⟨_, rfl⟩
  try have h869 : x867.toInt = i.toInt + (6) := ty_inc h868 (by decide) (by omega) (by omega)
  refine lv_iinc (v := x867) (lv' := [(4, .int x867), (3, .ref q29), (2, .ref q13), (1, .ref q1), (0, .ref b)]) hx hb dL_law_1047 hl (k := 0) rfl h868.symm (by decide) rfl (fun ls hl => ?_)
  refine lv_goto (tgt := 23) hx hb dL_law_1050 (by decide) ?_
  exact ih x867 Γ u858 (kc) (ks) _ _ ls (by omega) (by omega) (by have a9 := congrFun (hw864 4 (by decide)) 0; have b9 := congrFun (hw850 4 (by decide)) 0; omega) hst865.1 hq861 (Bd_e hb851 (hw864 33 (by decide)) (hw864 34 (by decide)) (hw864 35 (by decide))) hU t_q1 t_q13 t_q29 (by omega) (by omega) hG hS (lv_sub hl [0, 1, 2, 3, 4] rfl)
set_option maxHeartbeats 40000000 in
set_option maxRecDepth 100000 in
/-- the law's case 17 -/
theorem law_c17 {p : Program} {e : Env} {s : State} {m : MethodId} {below : List Frame} {meth : Method} {c : Code} (l : Launch) (hl9 : l.stackTraces = false) {b L : Nat} {xs : Nat → Int32} (hLN : L ≤ 3072) (hx : p.tables.exec = Jvm.exec) (hb : c.code = code) (hr : meth.sig.returnType = ret) (hml : c.maxLocals = 7) (hown : s.vm.findClass R_law = some m.cls) (hA : ∀ w ∈ AL, w.before #[Value.ref b] s = true) (hXs : va_X b L xs s s.heap) (hbl : b < s.heap.size) (hlocks : meth.locks = false) {dC : Nat → ClassId} {dI : Nat → Nat → Nat} {dA : Nat → ClassId} {sz : Nat} (hE : en dC dI dA sz s) (hsz : sz = s.heap.size) (hbA : ¬ ty_A sz b) (X : va_W) (q1 q13 q29 : Nat) (n : Nat) (ih : LJ p l e s m below meth c b dC dI dA sz X q1 q13 q29 n) (i : Int32) (Γ : ty_G) (g : gh) (kc ks : Nat) (H : Heap) (locs : List Loc) (ls : Array Slot) (hm : (3073 - i.toInt : Int) < (n + 1 : Nat)) (hi0 : 0 ≤ i.toInt ∧ i.toInt ≤ 3072) (hy4 : g 4 0 ≤ i.toInt) (hRL : RLA g) (hIJ : IJ g) (hBd : Bd Γ g) (hU : Un Γ) (t_q1 : ty Γ q1 1) (t_q13 : ty Γ q13 30) (t_q29 : ty Γ q29 25) (hkc : kc ≤ 300 + i.toInt.toNat) (hks : ks ≤ 30000 + 28 * i.toInt.toNat) (hG : ty_ok (dC, dI) vwCl Γ (TP dA Γ g) sz X H) (hS : va_S (ty_A sz) s.heap H locs) (hl : lv_has ls 7 [(4, .int i), (3, .ref q29), (2, .ref q13), (1, .ref q1), (0, .ref b)]) (hiL : i.toInt + 6 ≤ (L : Int)) : W p l e room_1 s m #[Value.ref b] below meth c H locs kc ks (lw_Z below #[Value.ref b] s) (F0 m 793 ls []) := by
  refine lv_aload_n hx hb dL_law_793 rfl (lv_at hl 3 rfl) ?_
  refine cI (va_runV (C := RX8) (As := []) (rest := []) ⟨hx, hb, hml, hown, hA⟩ (k_X8_year l dC dI dA sz X Γ hU g q1 t_q1   (RL_1 hRL) (RL_3 hRL) (RL_4 hRL hy4 hi0.2)) ⟨callB_of 0 hA (al_A wd_3_228) rfl rfl rfl (hA _ wd_1_1) (hA _ wd_3_225) (by decide +kernel) ⟨Nat.le_of_ble_eq_true rfl, Nat.le_of_ble_eq_true rfl⟩, hA _ wd_3_226, hA _ wd_3_227⟩ ⟨bl, recv_X8 hE hG t_q1, fun U hU9 hW9 => ⟨rfl, by rw [hU9]; exact hG, hE.go hS hU9 hW9⟩⟩ rfl rfl hl.1 rfl (lv_room (Nat.le_of_ble_eq_true rfl)) dL_law_794 ⟨(Nat.le_trans (show kc + 0 ≤ 300000 by omega) (Nat.le_of_ble_eq_true rfl)), (Nat.le_trans (show ks + 0 ≤ 300000 by omega) (Nat.le_of_ble_eq_true rfl))⟩) hS (fun x872 u870 H locs w871 hG hS => ?_)
  obtain ⟨hf876, w871, hq873, hq874, hq875⟩ := w871
  replace w871 := HD.mk w871
  replace hq873 := HD.mk hq873
  replace hq874 := HD.mk hq874
  replace hq875 := HD.mk hq875
  have hw877 : ∀ c, c ∉ ([4, 5, 44, 45, 65] : List Nat) → u870 c = g c := fun c hc => funext fun j => hf876 c j (fun q => hc (by rw [q]; decide)) (fun q => hc (by rw [q]; decide)) (fun q => hc (by rw [q]; decide)) (fun q => hc (by rw [q]; decide)) (fun q => hc (by rw [q]; decide))
  have hb878 : Bd Γ u870 := Bd_e hBd (hw877 33 (by decide)) (hw877 34 (by decide)) (hw877 35 (by decide))
  have hj879 : IJ u870 := IJ_e hIJ (hw877 126 (by decide)) (hw877 132 (by decide)) (hw877 134 (by decide))
  refine lv_pop hx hb dL_law_797 rfl ?_
  refine lv_aload_n hx hb dL_law_798 rfl (lv_at hl 2 rfl) ?_
  refine cI (va_runV (C := RX9) (As := []) (rest := []) ⟨hx, hb, hml, hown, hA⟩ (k_X9_year l dC dI dA sz X Γ hU u870 q13 t_q13   (RM_126 hRL (hw877 126 (by decide))) (hj879) (RM_111 hRL hy4 hi0.2 (hw877 111 (by decide)))) ⟨callB_of 0 hA (al_A wd_5_201) rfl rfl rfl (hA _ wd_1_7) (hA _ wd_5_198) (by decide +kernel) ⟨Nat.le_of_ble_eq_true rfl, Nat.le_of_ble_eq_true rfl⟩, hA _ wd_5_199, hA _ wd_5_200⟩ ⟨bl, recv_X9 hE hG t_q13, fun U hU9 hW9 => ⟨rfl, by rw [hU9]; exact hG, hE.go hS hU9 hW9⟩⟩ rfl rfl hl.1 rfl (lv_room (Nat.le_of_ble_eq_true rfl)) dL_law_799 ⟨(Nat.le_trans (show kc + 0 ≤ 300000 by omega) (Nat.le_of_ble_eq_true rfl)), (Nat.le_trans (show ks + 0 ≤ 300000 by omega) (Nat.le_of_ble_eq_true rfl))⟩) hS (fun x882 u880 H locs w881 hG hS => ?_)
  obtain ⟨hf886, w881, hq883, hq884, hq885⟩ := w881
  replace w881 := HD.mk w881
  replace hq884 := HD.mk hq884
  replace hq885 := HD.mk hq885
  have hw887 : ∀ c, c ∉ ([100, 110, 111, 112, 132] : List Nat) → u880 c = u870 c := fun c hc => funext fun j => hf886 c j (fun q => hc (by rw [q]; decide)) (fun q => hc (by rw [q]; decide)) (fun q => hc (by rw [q]; decide)) (fun q => hc (by rw [q]; decide)) (fun q => hc (by rw [q]; decide))
  have hst888 := st_year (g := g) (u1 := u870) (u2 := u880) (r1 := x872) (r2 := x882) hRL hw877 hw887 w871.v.1 w871.v.2.1 w871.v.2.2 hq873.v hq874.v hq875.v w881.v.1 w881.v.2.1 w881.v.2.2 hq884.v hq885.v
  have hrr889 := hst888.2
  refine lv_pop hx hb dL_law_802 rfl ?_
  refine lv_goto (tgt := 1047) hx hb dL_law_803 (by decide) ?_
  obtain ⟨x890, h891⟩ : ∃ y : Int32, y = i + Int32.ofInt (6) := ⟨_, rfl⟩
  try have h892 : x890.toInt = i.toInt + (6) := ty_inc h891 (by decide) (by omega) (by omega)
  refine lv_iinc (v := x890) (lv' := [(4, .int x890), (3, .ref q29), (2, .ref q13), (1, .ref q1), (0, .ref b)]) hx hb dL_law_1047 hl (k := 0) rfl h891.symm (by decide) rfl (fun ls hl => ?_)
  refine lv_goto (tgt := 23) hx hb dL_law_1050 (by decide) ?_
  exact ih x890 Γ u880 (kc) (ks) _ _ ls (by omega) (by omega) (by have a9 := congrFun (hw887 4 (by decide)) 0; have b9 := w871.v.2.1; omega) hst888.1 hq883 (Bd_e hb878 (hw887 33 (by decide)) (hw887 34 (by decide)) (hw887 35 (by decide))) hU t_q1 t_q13 t_q29 (by omega) (by omega) hG hS (lv_sub hl [0, 1, 2, 3, 4] rfl)
set_option maxHeartbeats 40000000 in
set_option maxRecDepth 100000 in
/-- the law's case 18 -/
theorem law_c18 {p : Program} {e : Env} {s : State} {m : MethodId} {below : List Frame} {meth : Method} {c : Code} (l : Launch) (hl9 : l.stackTraces = false) {b L : Nat} {xs : Nat → Int32} (hLN : L ≤ 3072) (hx : p.tables.exec = Jvm.exec) (hb : c.code = code) (hr : meth.sig.returnType = ret) (hml : c.maxLocals = 7) (hown : s.vm.findClass R_law = some m.cls) (hA : ∀ w ∈ AL, w.before #[Value.ref b] s = true) (hXs : va_X b L xs s s.heap) (hbl : b < s.heap.size) (hlocks : meth.locks = false) {dC : Nat → ClassId} {dI : Nat → Nat → Nat} {dA : Nat → ClassId} {sz : Nat} (hE : en dC dI dA sz s) (hsz : sz = s.heap.size) (hbA : ¬ ty_A sz b) (X : va_W) (q1 q13 q29 : Nat) (n : Nat) (ih : LJ p l e s m below meth c b dC dI dA sz X q1 q13 q29 n) (i : Int32) (Γ : ty_G) (g : gh) (kc ks : Nat) (H : Heap) (locs : List Loc) (ls : Array Slot) (hm : (3073 - i.toInt : Int) < (n + 1 : Nat)) (hi0 : 0 ≤ i.toInt ∧ i.toInt ≤ 3072) (hy4 : g 4 0 ≤ i.toInt) (hRL : RLA g) (hIJ : IJ g) (hBd : Bd Γ g) (hU : Un Γ) (t_q1 : ty Γ q1 1) (t_q13 : ty Γ q13 30) (t_q29 : ty Γ q29 25) (hkc : kc ≤ 300 + i.toInt.toNat) (hks : ks ≤ 30000 + 28 * i.toInt.toNat) (hG : ty_ok (dC, dI) vwCl Γ (TP dA Γ g) sz X H) (hS : va_S (ty_A sz) s.heap H locs) (hl : lv_has ls 7 [(4, .int i), (3, .ref q29), (2, .ref q13), (1, .ref q1), (0, .ref b)]) (hiL : i.toInt + 6 ≤ (L : Int)) : W p l e room_1 s m #[Value.ref b] below meth c H locs kc ks (lw_Z below #[Value.ref b] s) (F0 m 806 ls []) := by
  refine lv_aload_n hx hb dL_law_806 rfl (lv_at hl 3 rfl) ?_
  refine lv_aload_n hx hb dL_law_807 rfl (lv_at hl 4 rfl) ?_
  refine lv_iload hx hb dL_law_808 (lv_at hl 0 rfl) ?_
  refine ty_iconst hx hb (1) dL_law_810 (by decide) (fun x893 h894 => ?_)
  refine ty_iadd hx hb dL_law_811 (fun x895 h896 => ?_)
  have h897 := lw_ix (k := 1) h894 h896 hi0 hiL hLN (by decide)
  refine va_sld hx hb hXs hbl hbA hS (i := x895) (ty_ix h897.2) dL_law_812 ?_
  refine W.eq (g2 := F0 m 813 ls [.int (xs (i.toInt.toNat + 1)), .ref q1]) (by rw [lw_xs (xs := xs) h897.1 hi0.1]) ?_
  clear h897 h896 h894
  refine lv_topi (fun x898 s899 => ?_)
  refine lv_aload_n hx hb dL_law_813 rfl (lv_at hl 4 rfl) ?_
  refine lv_iload hx hb dL_law_814 (lv_at hl 0 rfl) ?_
  refine ty_iconst hx hb (2) dL_law_816 (by decide) (fun x900 h901 => ?_)
  refine ty_iadd hx hb dL_law_817 (fun x902 h903 => ?_)
  have h904 := lw_ix (k := 2) h901 h903 hi0 hiL hLN (by decide)
  refine va_sld hx hb hXs hbl hbA hS (i := x902) (ty_ix h904.2) dL_law_818 ?_
  refine W.eq (g2 := F0 m 819 ls [.int (xs (i.toInt.toNat + 2)), .int x898, .ref q1]) (by rw [lw_xs (xs := xs) h904.1 hi0.1]) ?_
  clear h904 h903 h901
  refine lv_topi (fun x905 s906 => ?_)
  refine lv_aload_n hx hb dL_law_819 rfl (lv_at hl 4 rfl) ?_
  refine lv_iload hx hb dL_law_820 (lv_at hl 0 rfl) ?_
  refine ty_iconst hx hb (3) dL_law_822 (by decide) (fun x907 h908 => ?_)
  refine ty_iadd hx hb dL_law_823 (fun x909 h910 => ?_)
  have h911 := lw_ix (k := 3) h908 h910 hi0 hiL hLN (by decide)
  refine va_sld hx hb hXs hbl hbA hS (i := x909) (ty_ix h911.2) dL_law_824 ?_
  refine W.eq (g2 := F0 m 825 ls [.int (xs (i.toInt.toNat + 3)), .int x905, .int x898, .ref q1]) (by rw [lw_xs (xs := xs) h911.1 hi0.1]) ?_
  clear h911 h910 h908
  refine lv_topi (fun x912 s913 => ?_)
  refine ty_if_eq (tgt := 832) hx hb dL_law_825 (by decide) (fun c914 => ?_) (fun c914 => ?_)
  · skip
    refine ty_iconst hx hb (0) dL_law_832 (by decide) (fun x915 h916 => ?_)
    refine cI (va_runV (C := RX8) (As := [.int x898, .int x905, .int x915]) (rest := []) ⟨hx, hb, hml, hown, hA⟩ (k_X8_dies l dC dI dA sz X Γ hU g q1 t_q1 x898 x905 x915   (RL_1 hRL) (RL_2 hRL) (RL_3 hRL) (RL_ow hRL)) ⟨callB_of 3 hA (al_A wd_3_236) rfl rfl rfl (hA _ wd_1_1) (hA _ wd_3_233) (by decide +kernel) ⟨Nat.le_of_ble_eq_true rfl, Nat.le_of_ble_eq_true rfl⟩, hA _ wd_3_234, hA _ wd_3_235⟩ ⟨bl, recv_X8 hE hG t_q1, fun U hU9 hW9 => ⟨rfl, by rw [hU9]; exact hG, hE.go hS hU9 hW9⟩⟩ rfl rfl hl.1 rfl (lv_room (Nat.le_of_ble_eq_true rfl)) dL_law_833 ⟨(Nat.le_trans (show kc + 0 ≤ 300000 by omega) (Nat.le_of_ble_eq_true rfl)), (Nat.le_trans (show ks + 0 ≤ 300000 by omega) (Nat.le_of_ble_eq_true rfl))⟩) hS (fun x919 u917 H locs w918 hG hS => ?_)
    obtain ⟨hf922, hq920, hq921⟩ := w918
    replace hq920 := HD.mk hq920
    replace hq921 := HD.mk hq921
    have hw923 : ∀ c, c ∉ ([43, 51, 53, 54, 56, 65] : List Nat) → u917 c = g c := fun c hc => funext fun j => hf922 c j (fun q => hc (by rw [q]; decide)) (fun q => hc (by rw [q]; decide)) (fun q => hc (by rw [q]; decide)) (fun q => hc (by rw [q]; decide)) (fun q => hc (by rw [q]; decide)) (fun q => hc (by rw [q]; decide))
    have hb924 : Bd Γ u917 := Bd_e hBd (hw923 33 (by decide)) (hw923 34 (by decide)) (hw923 35 (by decide))
    have hj925 : IJ u917 := IJ_e hIJ (hw923 126 (by decide)) (hw923 132 (by decide)) (hw923 134 (by decide))
    refine lv_pop hx hb dL_law_836 rfl ?_
    refine lv_aload_n hx hb dL_law_837 rfl (lv_at hl 2 rfl) ?_
    refine lv_aload_n hx hb dL_law_838 rfl (lv_at hl 4 rfl) ?_
    refine lv_iload hx hb dL_law_839 (lv_at hl 0 rfl) ?_
    refine ty_iconst hx hb (1) dL_law_841 (by decide) (fun x926 h927 => ?_)
    refine ty_iadd hx hb dL_law_842 (fun x928 h929 => ?_)
    have h930 := lw_ix (k := 1) h927 h929 hi0 hiL hLN (by decide)
    refine va_sld hx hb hXs hbl hbA hS (i := x928) (ty_ix h930.2) dL_law_843 ?_
    refine W.eq (g2 := F0 m 844 ls [.int (xs (i.toInt.toNat + 1)), .ref q13]) (by rw [lw_xs (xs := xs) h930.1 hi0.1]) ?_
    clear h930 h929 h927
    refine W.eq (g2 := F0 m 844 ls [.int x898, .ref q13]) (by rw [s899]) ?_
    refine lv_aload_n hx hb dL_law_844 rfl (lv_at hl 4 rfl) ?_
    refine lv_iload hx hb dL_law_845 (lv_at hl 0 rfl) ?_
    refine ty_iconst hx hb (2) dL_law_847 (by decide) (fun x931 h932 => ?_)
    refine ty_iadd hx hb dL_law_848 (fun x933 h934 => ?_)
    have h935 := lw_ix (k := 2) h932 h934 hi0 hiL hLN (by decide)
    refine va_sld hx hb hXs hbl hbA hS (i := x933) (ty_ix h935.2) dL_law_849 ?_
    refine W.eq (g2 := F0 m 850 ls [.int (xs (i.toInt.toNat + 2)), .int x898, .ref q13]) (by rw [lw_xs (xs := xs) h935.1 hi0.1]) ?_
    clear h935 h934 h932
    refine W.eq (g2 := F0 m 850 ls [.int x905, .int x898, .ref q13]) (by rw [s906]) ?_
    refine lv_aload_n hx hb dL_law_850 rfl (lv_at hl 4 rfl) ?_
    refine lv_iload hx hb dL_law_851 (lv_at hl 0 rfl) ?_
    refine ty_iconst hx hb (3) dL_law_853 (by decide) (fun x936 h937 => ?_)
    refine ty_iadd hx hb dL_law_854 (fun x938 h939 => ?_)
    have h940 := lw_ix (k := 3) h937 h939 hi0 hiL hLN (by decide)
    refine va_sld hx hb hXs hbl hbA hS (i := x938) (ty_ix h940.2) dL_law_855 ?_
    refine W.eq (g2 := F0 m 856 ls [.int (xs (i.toInt.toNat + 3)), .int x905, .int x898, .ref q13]) (by rw [lw_xs (xs := xs) h940.1 hi0.1]) ?_
    clear h940 h939 h937
    refine W.eq (g2 := F0 m 856 ls [.int x912, .int x905, .int x898, .ref q13]) (by rw [s913]) ?_
    refine ty_if_eq (tgt := 863) hx hb dL_law_856 (by decide) (fun c941 => ?_) (fun c941 => ?_)
    · skip
      refine ty_iconst hx hb (0) dL_law_863 (by decide) (fun x942 h943 => ?_)
      have ha944 : x942 = x915 := ty_eq32.mpr (by omega)
      refine cI (va_runV (C := RX9) (As := [.int x898, .int x905, .int x942]) (rest := []) ⟨hx, hb, hml, hown, hA⟩ (k_X9_dies l dC dI dA sz X Γ hU u917 q13 t_q13 x898 x905 x942   (RM_104 hRL (hw923 104 (by decide))) (RM_126 hRL (hw923 126 (by decide))) (RM_122 hRL (hw923 122 (by decide))) (hj925)) ⟨callB_of 3 hA (al_A wd_5_205) rfl rfl rfl (hA _ wd_1_7) (hA _ wd_5_202) (by decide +kernel) ⟨Nat.le_of_ble_eq_true rfl, Nat.le_of_ble_eq_true rfl⟩, hA _ wd_5_203, hA _ wd_5_204⟩ ⟨bl, recv_X9 hE hG t_q13, fun U hU9 hW9 => ⟨rfl, by rw [hU9]; exact hG, hE.go hS hU9 hW9⟩⟩ rfl rfl hl.1 rfl (lv_room (Nat.le_of_ble_eq_true rfl)) dL_law_864 ⟨(Nat.le_trans (show kc + 0 ≤ 300000 by omega) (Nat.le_of_ble_eq_true rfl)), (Nat.le_trans (show ks + 0 ≤ 300000 by omega) (Nat.le_of_ble_eq_true rfl))⟩) hS (fun x947 u945 H locs w946 hG hS => ?_)
      obtain ⟨hf950, hq948, hq949⟩ := w946
      try rw [ha944] at hq949
      replace hq949 := HD.mk hq949
      have hw951 : ∀ c, c ∉ ([100, 106, 108, 109, 132, 135] : List Nat) → u945 c = u917 c := fun c hc => funext fun j => hf950 c j (fun q => hc (by rw [q]; decide)) (fun q => hc (by rw [q]; decide)) (fun q => hc (by rw [q]; decide)) (fun q => hc (by rw [q]; decide)) (fun q => hc (by rw [q]; decide)) (fun q => hc (by rw [q]; decide))
      have hst952 := st_dies (g := g) (u1 := u917) (u2 := u945) (r1 := x919) (r2 := x947) hRL hw923 hw951 hq920.v hq921.v hq949.v
      have hrr953 := hst952.2
      refine lv_pop hx hb dL_law_867 rfl ?_
      refine lv_goto (tgt := 1047) hx hb dL_law_868 (by decide) ?_
      obtain ⟨x954, h955⟩ : ∃ y : Int32, y = i + Int32.ofInt (6) := ⟨_, rfl⟩
      try have h956 : x954.toInt = i.toInt + (6) := ty_inc h955 (by decide) (by omega) (by omega)
      refine lv_iinc (v := x954) (lv' := [(4, .int x954), (3, .ref q29), (2, .ref q13), (1, .ref q1), (0, .ref b)]) hx hb dL_law_1047 hl (k := 0) rfl h955.symm (by decide) rfl (fun ls hl => ?_)
      refine lv_goto (tgt := 23) hx hb dL_law_1050 (by decide) ?_
      exact ih x954 Γ u945 (kc) (ks) _ _ ls (by omega) (by omega) (by have a9 := congrFun (hw951 4 (by decide)) 0; have b9 := congrFun (hw923 4 (by decide)) 0; omega) hst952.1 hq948 (Bd_e hb924 (hw951 33 (by decide)) (hw951 34 (by decide)) (hw951 35 (by decide))) hU t_q1 t_q13 t_q29 (by omega) (by omega) hG hS (lv_sub hl [0, 1, 2, 3, 4] rfl)
    · exfalso; omega
  · skip
    refine ty_iconst hx hb (1) dL_law_828 (by decide) (fun x957 h958 => ?_)
    refine lv_goto (tgt := 833) hx hb dL_law_829 (by decide) ?_
    refine cI (va_runV (C := RX8) (As := [.int x898, .int x905, .int x957]) (rest := []) ⟨hx, hb, hml, hown, hA⟩ (k_X8_dies l dC dI dA sz X Γ hU g q1 t_q1 x898 x905 x957   (RL_1 hRL) (RL_2 hRL) (RL_3 hRL) (RL_ow hRL)) ⟨callB_of 3 hA (al_A wd_3_236) rfl rfl rfl (hA _ wd_1_1) (hA _ wd_3_233) (by decide +kernel) ⟨Nat.le_of_ble_eq_true rfl, Nat.le_of_ble_eq_true rfl⟩, hA _ wd_3_234, hA _ wd_3_235⟩ ⟨bl, recv_X8 hE hG t_q1, fun U hU9 hW9 => ⟨rfl, by rw [hU9]; exact hG, hE.go hS hU9 hW9⟩⟩ rfl rfl hl.1 rfl (lv_room (Nat.le_of_ble_eq_true rfl)) dL_law_833 ⟨(Nat.le_trans (show kc + 0 ≤ 300000 by omega) (Nat.le_of_ble_eq_true rfl)), (Nat.le_trans (show ks + 0 ≤ 300000 by omega) (Nat.le_of_ble_eq_true rfl))⟩) hS (fun x961 u959 H locs w960 hG hS => ?_)
    obtain ⟨hf964, hq962, hq963⟩ := w960
    replace hq962 := HD.mk hq962
    replace hq963 := HD.mk hq963
    have hw965 : ∀ c, c ∉ ([43, 51, 53, 54, 56, 65] : List Nat) → u959 c = g c := fun c hc => funext fun j => hf964 c j (fun q => hc (by rw [q]; decide)) (fun q => hc (by rw [q]; decide)) (fun q => hc (by rw [q]; decide)) (fun q => hc (by rw [q]; decide)) (fun q => hc (by rw [q]; decide)) (fun q => hc (by rw [q]; decide))
    have hb966 : Bd Γ u959 := Bd_e hBd (hw965 33 (by decide)) (hw965 34 (by decide)) (hw965 35 (by decide))
    have hj967 : IJ u959 := IJ_e hIJ (hw965 126 (by decide)) (hw965 132 (by decide)) (hw965 134 (by decide))
    refine lv_pop hx hb dL_law_836 rfl ?_
    refine lv_aload_n hx hb dL_law_837 rfl (lv_at hl 2 rfl) ?_
    refine lv_aload_n hx hb dL_law_838 rfl (lv_at hl 4 rfl) ?_
    refine lv_iload hx hb dL_law_839 (lv_at hl 0 rfl) ?_
    refine ty_iconst hx hb (1) dL_law_841 (by decide) (fun x968 h969 => ?_)
    refine ty_iadd hx hb dL_law_842 (fun x970 h971 => ?_)
    have h972 := lw_ix (k := 1) h969 h971 hi0 hiL hLN (by decide)
    refine va_sld hx hb hXs hbl hbA hS (i := x970) (ty_ix h972.2) dL_law_843 ?_
    refine W.eq (g2 := F0 m 844 ls [.int (xs (i.toInt.toNat + 1)), .ref q13]) (by rw [lw_xs (xs := xs) h972.1 hi0.1]) ?_
    clear h972 h971 h969
    refine W.eq (g2 := F0 m 844 ls [.int x898, .ref q13]) (by rw [s899]) ?_
    refine lv_aload_n hx hb dL_law_844 rfl (lv_at hl 4 rfl) ?_
    refine lv_iload hx hb dL_law_845 (lv_at hl 0 rfl) ?_
    refine ty_iconst hx hb (2) dL_law_847 (by decide) (fun x973 h974 => ?_)
    refine ty_iadd hx hb dL_law_848 (fun x975 h976 => ?_)
    have h977 := lw_ix (k := 2) h974 h976 hi0 hiL hLN (by decide)
    refine va_sld hx hb hXs hbl hbA hS (i := x975) (ty_ix h977.2) dL_law_849 ?_
    refine W.eq (g2 := F0 m 850 ls [.int (xs (i.toInt.toNat + 2)), .int x898, .ref q13]) (by rw [lw_xs (xs := xs) h977.1 hi0.1]) ?_
    clear h977 h976 h974
    refine W.eq (g2 := F0 m 850 ls [.int x905, .int x898, .ref q13]) (by rw [s906]) ?_
    refine lv_aload_n hx hb dL_law_850 rfl (lv_at hl 4 rfl) ?_
    refine lv_iload hx hb dL_law_851 (lv_at hl 0 rfl) ?_
    refine ty_iconst hx hb (3) dL_law_853 (by decide) (fun x978 h979 => ?_)
    refine ty_iadd hx hb dL_law_854 (fun x980 h981 => ?_)
    have h982 := lw_ix (k := 3) h979 h981 hi0 hiL hLN (by decide)
    refine va_sld hx hb hXs hbl hbA hS (i := x980) (ty_ix h982.2) dL_law_855 ?_
    refine W.eq (g2 := F0 m 856 ls [.int (xs (i.toInt.toNat + 3)), .int x905, .int x898, .ref q13]) (by rw [lw_xs (xs := xs) h982.1 hi0.1]) ?_
    clear h982 h981 h979
    refine W.eq (g2 := F0 m 856 ls [.int x912, .int x905, .int x898, .ref q13]) (by rw [s913]) ?_
    refine ty_if_eq (tgt := 863) hx hb dL_law_856 (by decide) (fun c983 => ?_) (fun c983 => ?_)
    · skip
      refine ty_iconst hx hb (0) dL_law_863 (by decide) (fun x984 h985 => ?_)
      exfalso; omega
    · skip
      refine ty_iconst hx hb (1) dL_law_859 (by decide) (fun x986 h987 => ?_)
      refine lv_goto (tgt := 864) hx hb dL_law_860 (by decide) ?_
      have ha988 : x986 = x957 := ty_eq32.mpr (by omega)
      refine cI (va_runV (C := RX9) (As := [.int x898, .int x905, .int x986]) (rest := []) ⟨hx, hb, hml, hown, hA⟩ (k_X9_dies l dC dI dA sz X Γ hU u959 q13 t_q13 x898 x905 x986   (RM_104 hRL (hw965 104 (by decide))) (RM_126 hRL (hw965 126 (by decide))) (RM_122 hRL (hw965 122 (by decide))) (hj967)) ⟨callB_of 3 hA (al_A wd_5_205) rfl rfl rfl (hA _ wd_1_7) (hA _ wd_5_202) (by decide +kernel) ⟨Nat.le_of_ble_eq_true rfl, Nat.le_of_ble_eq_true rfl⟩, hA _ wd_5_203, hA _ wd_5_204⟩ ⟨bl, recv_X9 hE hG t_q13, fun U hU9 hW9 => ⟨rfl, by rw [hU9]; exact hG, hE.go hS hU9 hW9⟩⟩ rfl rfl hl.1 rfl (lv_room (Nat.le_of_ble_eq_true rfl)) dL_law_864 ⟨(Nat.le_trans (show kc + 0 ≤ 300000 by omega) (Nat.le_of_ble_eq_true rfl)), (Nat.le_trans (show ks + 0 ≤ 300000 by omega) (Nat.le_of_ble_eq_true rfl))⟩) hS (fun x991 u989 H locs w990 hG hS => ?_)
      obtain ⟨hf994, hq992, hq993⟩ := w990
      try rw [ha988] at hq993
      replace hq993 := HD.mk hq993
      have hw995 : ∀ c, c ∉ ([100, 106, 108, 109, 132, 135] : List Nat) → u989 c = u959 c := fun c hc => funext fun j => hf994 c j (fun q => hc (by rw [q]; decide)) (fun q => hc (by rw [q]; decide)) (fun q => hc (by rw [q]; decide)) (fun q => hc (by rw [q]; decide)) (fun q => hc (by rw [q]; decide)) (fun q => hc (by rw [q]; decide))
      have hst996 := st_dies (g := g) (u1 := u959) (u2 := u989) (r1 := x961) (r2 := x991) hRL hw965 hw995 hq962.v hq963.v hq993.v
      have hrr997 := hst996.2
      refine lv_pop hx hb dL_law_867 rfl ?_
      refine lv_goto (tgt := 1047) hx hb dL_law_868 (by decide) ?_
      obtain ⟨x998, h999⟩ : ∃ y : Int32, y = i + Int32.ofInt (6) := ⟨_, rfl⟩
      try have h1000 : x998.toInt = i.toInt + (6) := ty_inc h999 (by decide) (by omega) (by omega)
      refine lv_iinc (v := x998) (lv' := [(4, .int x998), (3, .ref q29), (2, .ref q13), (1, .ref q1), (0, .ref b)]) hx hb dL_law_1047 hl (k := 0) rfl h999.symm (by decide) rfl (fun ls hl => ?_)
      refine lv_goto (tgt := 23) hx hb dL_law_1050 (by decide) ?_
      exact ih x998 Γ u989 (kc) (ks) _ _ ls (by omega) (by omega) (by have a9 := congrFun (hw995 4 (by decide)) 0; have b9 := congrFun (hw965 4 (by decide)) 0; omega) hst996.1 hq992 (Bd_e hb966 (hw995 33 (by decide)) (hw995 34 (by decide)) (hw995 35 (by decide))) hU t_q1 t_q13 t_q29 (by omega) (by omega) hG hS (lv_sub hl [0, 1, 2, 3, 4] rfl)
set_option maxHeartbeats 40000000 in
set_option maxRecDepth 100000 in
/-- the law's case 19 -/
theorem law_c19 {p : Program} {e : Env} {s : State} {m : MethodId} {below : List Frame} {meth : Method} {c : Code} (l : Launch) (hl9 : l.stackTraces = false) {b L : Nat} {xs : Nat → Int32} (hLN : L ≤ 3072) (hx : p.tables.exec = Jvm.exec) (hb : c.code = code) (hr : meth.sig.returnType = ret) (hml : c.maxLocals = 7) (hown : s.vm.findClass R_law = some m.cls) (hA : ∀ w ∈ AL, w.before #[Value.ref b] s = true) (hXs : va_X b L xs s s.heap) (hbl : b < s.heap.size) (hlocks : meth.locks = false) {dC : Nat → ClassId} {dI : Nat → Nat → Nat} {dA : Nat → ClassId} {sz : Nat} (hE : en dC dI dA sz s) (hsz : sz = s.heap.size) (hbA : ¬ ty_A sz b) (X : va_W) (q1 q13 q29 : Nat) (n : Nat) (ih : LJ p l e s m below meth c b dC dI dA sz X q1 q13 q29 n) (i : Int32) (Γ : ty_G) (g : gh) (kc ks : Nat) (H : Heap) (locs : List Loc) (ls : Array Slot) (hm : (3073 - i.toInt : Int) < (n + 1 : Nat)) (hi0 : 0 ≤ i.toInt ∧ i.toInt ≤ 3072) (hy4 : g 4 0 ≤ i.toInt) (hRL : RLA g) (hIJ : IJ g) (hBd : Bd Γ g) (hU : Un Γ) (t_q1 : ty Γ q1 1) (t_q13 : ty Γ q13 30) (t_q29 : ty Γ q29 25) (hkc : kc ≤ 300 + i.toInt.toNat) (hks : ks ≤ 30000 + 28 * i.toInt.toNat) (hG : ty_ok (dC, dI) vwCl Γ (TP dA Γ g) sz X H) (hS : va_S (ty_A sz) s.heap H locs) (hl : lv_has ls 7 [(4, .int i), (3, .ref q29), (2, .ref q13), (1, .ref q1), (0, .ref b)]) (hiL : i.toInt + 6 ≤ (L : Int)) : W p l e room_1 s m #[Value.ref b] below meth c H locs kc ks (lw_Z below #[Value.ref b] s) (F0 m 871 ls []) := by
  refine lv_aload_n hx hb dL_law_871 rfl (lv_at hl 3 rfl) ?_
  refine lv_aload_n hx hb dL_law_872 rfl (lv_at hl 4 rfl) ?_
  refine lv_iload hx hb dL_law_873 (lv_at hl 0 rfl) ?_
  refine ty_iconst hx hb (1) dL_law_875 (by decide) (fun x1001 h1002 => ?_)
  refine ty_iadd hx hb dL_law_876 (fun x1003 h1004 => ?_)
  have h1005 := lw_ix (k := 1) h1002 h1004 hi0 hiL hLN (by decide)
  refine va_sld hx hb hXs hbl hbA hS (i := x1003) (ty_ix h1005.2) dL_law_877 ?_
  refine W.eq (g2 := F0 m 878 ls [.int (xs (i.toInt.toNat + 1)), .ref q1]) (by rw [lw_xs (xs := xs) h1005.1 hi0.1]) ?_
  clear h1005 h1004 h1002
  refine lv_topi (fun x1006 s1007 => ?_)
  refine lv_aload_n hx hb dL_law_878 rfl (lv_at hl 4 rfl) ?_
  refine lv_iload hx hb dL_law_879 (lv_at hl 0 rfl) ?_
  refine ty_iconst hx hb (2) dL_law_881 (by decide) (fun x1008 h1009 => ?_)
  refine ty_iadd hx hb dL_law_882 (fun x1010 h1011 => ?_)
  have h1012 := lw_ix (k := 2) h1009 h1011 hi0 hiL hLN (by decide)
  refine va_sld hx hb hXs hbl hbA hS (i := x1010) (ty_ix h1012.2) dL_law_883 ?_
  refine W.eq (g2 := F0 m 884 ls [.int (xs (i.toInt.toNat + 2)), .int x1006, .ref q1]) (by rw [lw_xs (xs := xs) h1012.1 hi0.1]) ?_
  clear h1012 h1011 h1009
  refine lv_topi (fun x1013 s1014 => ?_)
  refine cI (va_runV (C := RX8) (As := [.int x1006, .int x1013]) (rest := []) ⟨hx, hb, hml, hown, hA⟩ (k_X8_fees l dC dI dA sz X Γ hU g q1 t_q1 x1006 x1013   (RL_2 hRL)) ⟨callB_of 2 hA (al_A wd_4_4) rfl rfl rfl (hA _ wd_1_1) (hA _ wd_4_1) (by decide +kernel) ⟨Nat.le_of_ble_eq_true rfl, Nat.le_of_ble_eq_true rfl⟩, hA _ wd_4_2, hA _ wd_4_3⟩ ⟨bl, recv_X8 hE hG t_q1, fun U hU9 hW9 => ⟨rfl, by rw [hU9]; exact hG, hE.go hS hU9 hW9⟩⟩ rfl rfl hl.1 rfl (lv_room (Nat.le_of_ble_eq_true rfl)) dL_law_884 ⟨(Nat.le_trans (show kc + 0 ≤ 300000 by omega) (Nat.le_of_ble_eq_true rfl)), (Nat.le_trans (show ks + 0 ≤ 300000 by omega) (Nat.le_of_ble_eq_true rfl))⟩) hS (fun x1017 u1015 H locs w1016 hG hS => ?_)
  have hf1018 := w1016
  have hw1019 : ∀ c, c ∉ ([30, 31, 32] : List Nat) → u1015 c = g c := fun c hc => funext fun j => hf1018 c j (fun q => hc (by rw [q]; decide)) (fun q => hc (by rw [q]; decide)) (fun q => hc (by rw [q]; decide))
  have hb1020 : Bd Γ u1015 := Bd_e hBd (hw1019 33 (by decide)) (hw1019 34 (by decide)) (hw1019 35 (by decide))
  have hj1021 : IJ u1015 := IJ_e hIJ (hw1019 126 (by decide)) (hw1019 132 (by decide)) (hw1019 134 (by decide))
  refine lv_pop hx hb dL_law_887 rfl ?_
  refine lv_aload_n hx hb dL_law_888 rfl (lv_at hl 2 rfl) ?_
  refine lv_aload_n hx hb dL_law_889 rfl (lv_at hl 4 rfl) ?_
  refine lv_iload hx hb dL_law_890 (lv_at hl 0 rfl) ?_
  refine ty_iconst hx hb (1) dL_law_892 (by decide) (fun x1022 h1023 => ?_)
  refine ty_iadd hx hb dL_law_893 (fun x1024 h1025 => ?_)
  have h1026 := lw_ix (k := 1) h1023 h1025 hi0 hiL hLN (by decide)
  refine va_sld hx hb hXs hbl hbA hS (i := x1024) (ty_ix h1026.2) dL_law_894 ?_
  refine W.eq (g2 := F0 m 895 ls [.int (xs (i.toInt.toNat + 1)), .ref q13]) (by rw [lw_xs (xs := xs) h1026.1 hi0.1]) ?_
  clear h1026 h1025 h1023
  refine W.eq (g2 := F0 m 895 ls [.int x1006, .ref q13]) (by rw [s1007]) ?_
  refine lv_aload_n hx hb dL_law_895 rfl (lv_at hl 4 rfl) ?_
  refine lv_iload hx hb dL_law_896 (lv_at hl 0 rfl) ?_
  refine ty_iconst hx hb (2) dL_law_898 (by decide) (fun x1027 h1028 => ?_)
  refine ty_iadd hx hb dL_law_899 (fun x1029 h1030 => ?_)
  have h1031 := lw_ix (k := 2) h1028 h1030 hi0 hiL hLN (by decide)
  refine va_sld hx hb hXs hbl hbA hS (i := x1029) (ty_ix h1031.2) dL_law_900 ?_
  refine W.eq (g2 := F0 m 901 ls [.int (xs (i.toInt.toNat + 2)), .int x1006, .ref q13]) (by rw [lw_xs (xs := xs) h1031.1 hi0.1]) ?_
  clear h1031 h1030 h1028
  refine W.eq (g2 := F0 m 901 ls [.int x1013, .int x1006, .ref q13]) (by rw [s1014]) ?_
  refine cI (va_runV (C := RX9) (As := [.int x1006, .int x1013]) (rest := []) ⟨hx, hb, hml, hown, hA⟩ (k_X9_fees l dC dI dA sz X Γ hU u1015 q13 t_q13 x1006 x1013   (RM_104 hRL (hw1019 104 (by decide)))) ⟨callB_of 2 hA (al_A wd_5_213) rfl rfl rfl (hA _ wd_1_7) (hA _ wd_5_210) (by decide +kernel) ⟨Nat.le_of_ble_eq_true rfl, Nat.le_of_ble_eq_true rfl⟩, hA _ wd_5_211, hA _ wd_5_212⟩ ⟨bl, recv_X9 hE hG t_q13, fun U hU9 hW9 => ⟨rfl, by rw [hU9]; exact hG, hE.go hS hU9 hW9⟩⟩ rfl rfl hl.1 rfl (lv_room (Nat.le_of_ble_eq_true rfl)) dL_law_901 ⟨(Nat.le_trans (show kc + 0 ≤ 300000 by omega) (Nat.le_of_ble_eq_true rfl)), (Nat.le_trans (show ks + 0 ≤ 300000 by omega) (Nat.le_of_ble_eq_true rfl))⟩) hS (fun x1034 u1032 H locs w1033 hG hS => ?_)
  have hf1035 := w1033
  have hw1036 : ∀ c, c ∉ ([100, 146] : List Nat) → u1032 c = u1015 c := fun c hc => funext fun j => hf1035 c j (fun q => hc (by rw [q]; decide)) (fun q => hc (by rw [q]; decide))
  have hst1037 := st_fees (p1 := x1006) (p2 := x1013) (r1 := x1017) (r2 := x1034) (g := g) (u1 := u1015) (u2 := u1032) hRL hw1019 hw1036
  refine lv_pop hx hb dL_law_904 rfl ?_
  refine lv_goto (tgt := 1047) hx hb dL_law_905 (by decide) ?_
  obtain ⟨x1038, h1039⟩ : ∃ y : Int32, y = i + Int32.ofInt (6) := ⟨_, rfl⟩
  try have h1040 : x1038.toInt = i.toInt + (6) := ty_inc h1039 (by decide) (by omega) (by omega)
  refine lv_iinc (v := x1038) (lv' := [(4, .int x1038), (3, .ref q29), (2, .ref q13), (1, .ref q1), (0, .ref b)]) hx hb dL_law_1047 hl (k := 0) rfl h1039.symm (by decide) rfl (fun ls hl => ?_)
  refine lv_goto (tgt := 23) hx hb dL_law_1050 (by decide) ?_
  exact ih x1038 Γ u1032 (kc) (ks) _ _ ls (by omega) (by omega) (by have a9 := congrFun (hw1036 4 (by decide)) 0; have b9 := congrFun (hw1019 4 (by decide)) 0; omega) hst1037 (IJ_e hj1021 (hw1036 126 (by decide)) (hw1036 132 (by decide)) (hw1036 134 (by decide))) (Bd_e hb1020 (hw1036 33 (by decide)) (hw1036 34 (by decide)) (hw1036 35 (by decide))) hU t_q1 t_q13 t_q29 (by omega) (by omega) hG hS (lv_sub hl [0, 1, 2, 3, 4] rfl)
set_option maxHeartbeats 40000000 in
set_option maxRecDepth 100000 in
/-- the law's case 20 -/
theorem law_c20 {p : Program} {e : Env} {s : State} {m : MethodId} {below : List Frame} {meth : Method} {c : Code} (l : Launch) (hl9 : l.stackTraces = false) {b L : Nat} {xs : Nat → Int32} (hLN : L ≤ 3072) (hx : p.tables.exec = Jvm.exec) (hb : c.code = code) (hr : meth.sig.returnType = ret) (hml : c.maxLocals = 7) (hown : s.vm.findClass R_law = some m.cls) (hA : ∀ w ∈ AL, w.before #[Value.ref b] s = true) (hXs : va_X b L xs s s.heap) (hbl : b < s.heap.size) (hlocks : meth.locks = false) {dC : Nat → ClassId} {dI : Nat → Nat → Nat} {dA : Nat → ClassId} {sz : Nat} (hE : en dC dI dA sz s) (hsz : sz = s.heap.size) (hbA : ¬ ty_A sz b) (X : va_W) (q1 q13 q29 : Nat) (n : Nat) (ih : LJ p l e s m below meth c b dC dI dA sz X q1 q13 q29 n) (i : Int32) (Γ : ty_G) (g : gh) (kc ks : Nat) (H : Heap) (locs : List Loc) (ls : Array Slot) (hm : (3073 - i.toInt : Int) < (n + 1 : Nat)) (hi0 : 0 ≤ i.toInt ∧ i.toInt ≤ 3072) (hy4 : g 4 0 ≤ i.toInt) (hRL : RLA g) (hIJ : IJ g) (hBd : Bd Γ g) (hU : Un Γ) (t_q1 : ty Γ q1 1) (t_q13 : ty Γ q13 30) (t_q29 : ty Γ q29 25) (hkc : kc ≤ 300 + i.toInt.toNat) (hks : ks ≤ 30000 + 28 * i.toInt.toNat) (hG : ty_ok (dC, dI) vwCl Γ (TP dA Γ g) sz X H) (hS : va_S (ty_A sz) s.heap H locs) (hl : lv_has ls 7 [(4, .int i), (3, .ref q29), (2, .ref q13), (1, .ref q1), (0, .ref b)]) (hiL : i.toInt + 6 ≤ (L : Int)) : W p l e room_1 s m #[Value.ref b] below meth c H locs kc ks (lw_Z below #[Value.ref b] s) (F0 m 908 ls []) := by
  refine lv_aload_n hx hb dL_law_908 rfl (lv_at hl 3 rfl) ?_
  refine lv_aload_n hx hb dL_law_909 rfl (lv_at hl 4 rfl) ?_
  refine lv_iload hx hb dL_law_910 (lv_at hl 0 rfl) ?_
  refine ty_iconst hx hb (1) dL_law_912 (by decide) (fun x1041 h1042 => ?_)
  refine ty_iadd hx hb dL_law_913 (fun x1043 h1044 => ?_)
  have h1045 := lw_ix (k := 1) h1042 h1044 hi0 hiL hLN (by decide)
  refine va_sld hx hb hXs hbl hbA hS (i := x1043) (ty_ix h1045.2) dL_law_914 ?_
  refine W.eq (g2 := F0 m 915 ls [.int (xs (i.toInt.toNat + 1)), .ref q1]) (by rw [lw_xs (xs := xs) h1045.1 hi0.1]) ?_
  clear h1045 h1044 h1042
  refine lv_topi (fun x1046 s1047 => ?_)
  refine lv_aload_n hx hb dL_law_915 rfl (lv_at hl 4 rfl) ?_
  refine lv_iload hx hb dL_law_916 (lv_at hl 0 rfl) ?_
  refine ty_iconst hx hb (2) dL_law_918 (by decide) (fun x1048 h1049 => ?_)
  refine ty_iadd hx hb dL_law_919 (fun x1050 h1051 => ?_)
  have h1052 := lw_ix (k := 2) h1049 h1051 hi0 hiL hLN (by decide)
  refine va_sld hx hb hXs hbl hbA hS (i := x1050) (ty_ix h1052.2) dL_law_920 ?_
  refine W.eq (g2 := F0 m 921 ls [.int (xs (i.toInt.toNat + 2)), .int x1046, .ref q1]) (by rw [lw_xs (xs := xs) h1052.1 hi0.1]) ?_
  clear h1052 h1051 h1049
  refine lv_topi (fun x1053 s1054 => ?_)
  refine cI (va_runV (C := RX8) (As := [.int x1046, .int x1053]) (rest := []) ⟨hx, hb, hml, hown, hA⟩ (k_X8_party l dC dI dA sz X Γ hU g q1 t_q1 x1046 x1053   (RL_1 hRL)) ⟨callB_of 2 hA (al_A wd_4_33) rfl rfl rfl (hA _ wd_1_1) (hA _ wd_4_30) (by decide +kernel) ⟨Nat.le_of_ble_eq_true rfl, Nat.le_of_ble_eq_true rfl⟩, hA _ wd_4_31, hA _ wd_4_32⟩ ⟨bl, recv_X8 hE hG t_q1, fun U hU9 hW9 => ⟨rfl, by rw [hU9]; exact hG, hE.go hS hU9 hW9⟩⟩ rfl rfl hl.1 rfl (lv_room (Nat.le_of_ble_eq_true rfl)) dL_law_921 ⟨(Nat.le_trans (show kc + 0 ≤ 300000 by omega) (Nat.le_of_ble_eq_true rfl)), (Nat.le_trans (show ks + 0 ≤ 300000 by omega) (Nat.le_of_ble_eq_true rfl))⟩) hS (fun x1057 u1055 H locs w1056 hG hS => ?_)
  obtain ⟨eu1058, w1056⟩ := w1056
  rw [eu1058] at hG
  replace w1056 := HD.mk w1056
  refine lv_pop hx hb dL_law_924 rfl ?_
  refine lv_aload_n hx hb dL_law_925 rfl (lv_at hl 2 rfl) ?_
  refine lv_aload_n hx hb dL_law_926 rfl (lv_at hl 4 rfl) ?_
  refine lv_iload hx hb dL_law_927 (lv_at hl 0 rfl) ?_
  refine ty_iconst hx hb (1) dL_law_929 (by decide) (fun x1059 h1060 => ?_)
  refine ty_iadd hx hb dL_law_930 (fun x1061 h1062 => ?_)
  have h1063 := lw_ix (k := 1) h1060 h1062 hi0 hiL hLN (by decide)
  refine va_sld hx hb hXs hbl hbA hS (i := x1061) (ty_ix h1063.2) dL_law_931 ?_
  refine W.eq (g2 := F0 m 932 ls [.int (xs (i.toInt.toNat + 1)), .ref q13]) (by rw [lw_xs (xs := xs) h1063.1 hi0.1]) ?_
  clear h1063 h1062 h1060
  refine W.eq (g2 := F0 m 932 ls [.int x1046, .ref q13]) (by rw [s1047]) ?_
  refine lv_aload_n hx hb dL_law_932 rfl (lv_at hl 4 rfl) ?_
  refine lv_iload hx hb dL_law_933 (lv_at hl 0 rfl) ?_
  refine ty_iconst hx hb (2) dL_law_935 (by decide) (fun x1064 h1065 => ?_)
  refine ty_iadd hx hb dL_law_936 (fun x1066 h1067 => ?_)
  have h1068 := lw_ix (k := 2) h1065 h1067 hi0 hiL hLN (by decide)
  refine va_sld hx hb hXs hbl hbA hS (i := x1066) (ty_ix h1068.2) dL_law_937 ?_
  refine W.eq (g2 := F0 m 938 ls [.int (xs (i.toInt.toNat + 2)), .int x1046, .ref q13]) (by rw [lw_xs (xs := xs) h1068.1 hi0.1]) ?_
  clear h1068 h1067 h1065
  refine W.eq (g2 := F0 m 938 ls [.int x1053, .int x1046, .ref q13]) (by rw [s1054]) ?_
  refine cI (va_runV (C := RX9) (As := [.int x1046, .int x1053]) (rest := []) ⟨hx, hb, hml, hown, hA⟩ (k_X9_party l dC dI dA sz X Γ hU g q13 t_q13 x1046 x1053   (RM_101 hRL rfl) (RM_126 hRL rfl)) ⟨callB_of 2 hA (al_A wd_5_226) rfl rfl rfl (hA _ wd_1_7) (hA _ wd_5_223) (by decide +kernel) ⟨Nat.le_of_ble_eq_true rfl, Nat.le_of_ble_eq_true rfl⟩, hA _ wd_5_224, hA _ wd_5_225⟩ ⟨bl, recv_X9 hE hG t_q13, fun U hU9 hW9 => ⟨rfl, by rw [hU9]; exact hG, hE.go hS hU9 hW9⟩⟩ rfl rfl hl.1 rfl (lv_room (Nat.le_of_ble_eq_true rfl)) dL_law_938 ⟨(Nat.le_trans (show kc + 0 ≤ 300000 by omega) (Nat.le_of_ble_eq_true rfl)), (Nat.le_trans (show ks + 0 ≤ 300000 by omega) (Nat.le_of_ble_eq_true rfl))⟩) hS (fun x1071 u1069 H locs w1070 hG hS => ?_)
  obtain ⟨hf1072, w1070⟩ := w1070
  replace w1070 := HD.mk w1070
  have hw1073 : ∀ c, c ∉ ([100] : List Nat) → u1069 c = g c := fun c hc => funext fun j => hf1072 c j (fun q => hc (by rw [q]; decide))
  have hst1074 := st_party (g := g) (u1 := g) (u2 := u1069) (r1 := x1057) (r2 := x1071) hRL (fun _ _ => rfl) hw1073 w1056.v w1070.v
  have hrr1075 := hst1074.2
  refine lv_pop hx hb dL_law_941 rfl ?_
  refine lv_goto (tgt := 1047) hx hb dL_law_942 (by decide) ?_
  obtain ⟨x1076, h1077⟩ : ∃ y : Int32, y = i + Int32.ofInt (6) := ⟨_, rfl⟩
  try have h1078 : x1076.toInt = i.toInt + (6) := ty_inc h1077 (by decide) (by omega) (by omega)
  refine lv_iinc (v := x1076) (lv' := [(4, .int x1076), (3, .ref q29), (2, .ref q13), (1, .ref q1), (0, .ref b)]) hx hb dL_law_1047 hl (k := 0) rfl h1077.symm (by decide) rfl (fun ls hl => ?_)
  refine lv_goto (tgt := 23) hx hb dL_law_1050 (by decide) ?_
  exact ih x1076 Γ u1069 (kc) (ks) _ _ ls (by omega) (by omega) (by have a9 := congrFun (hw1073 4 (by decide)) 0; have b9 := True.intro; omega) hst1074.1 (IJ_e hIJ (hw1073 126 (by decide)) (hw1073 132 (by decide)) (hw1073 134 (by decide))) (Bd_e hBd (hw1073 33 (by decide)) (hw1073 34 (by decide)) (hw1073 35 (by decide))) hU t_q1 t_q13 t_q29 (by omega) (by omega) hG hS (lv_sub hl [0, 1, 2, 3, 4] rfl)
set_option maxHeartbeats 40000000 in
set_option maxRecDepth 100000 in
/-- the law's case 21 -/
theorem law_c21 {p : Program} {e : Env} {s : State} {m : MethodId} {below : List Frame} {meth : Method} {c : Code} (l : Launch) (hl9 : l.stackTraces = false) {b L : Nat} {xs : Nat → Int32} (hLN : L ≤ 3072) (hx : p.tables.exec = Jvm.exec) (hb : c.code = code) (hr : meth.sig.returnType = ret) (hml : c.maxLocals = 7) (hown : s.vm.findClass R_law = some m.cls) (hA : ∀ w ∈ AL, w.before #[Value.ref b] s = true) (hXs : va_X b L xs s s.heap) (hbl : b < s.heap.size) (hlocks : meth.locks = false) {dC : Nat → ClassId} {dI : Nat → Nat → Nat} {dA : Nat → ClassId} {sz : Nat} (hE : en dC dI dA sz s) (hsz : sz = s.heap.size) (hbA : ¬ ty_A sz b) (X : va_W) (q1 q13 q29 : Nat) (n : Nat) (ih : LJ p l e s m below meth c b dC dI dA sz X q1 q13 q29 n) (i : Int32) (Γ : ty_G) (g : gh) (kc ks : Nat) (H : Heap) (locs : List Loc) (ls : Array Slot) (hm : (3073 - i.toInt : Int) < (n + 1 : Nat)) (hi0 : 0 ≤ i.toInt ∧ i.toInt ≤ 3072) (hy4 : g 4 0 ≤ i.toInt) (hRL : RLA g) (hIJ : IJ g) (hBd : Bd Γ g) (hU : Un Γ) (t_q1 : ty Γ q1 1) (t_q13 : ty Γ q13 30) (t_q29 : ty Γ q29 25) (hkc : kc ≤ 300 + i.toInt.toNat) (hks : ks ≤ 30000 + 28 * i.toInt.toNat) (hG : ty_ok (dC, dI) vwCl Γ (TP dA Γ g) sz X H) (hS : va_S (ty_A sz) s.heap H locs) (hl : lv_has ls 7 [(4, .int i), (3, .ref q29), (2, .ref q13), (1, .ref q1), (0, .ref b)]) (hiL : i.toInt + 6 ≤ (L : Int)) : W p l e room_1 s m #[Value.ref b] below meth c H locs kc ks (lw_Z below #[Value.ref b] s) (F0 m 945 ls []) := by
  refine lv_aload_n hx hb dL_law_945 rfl (lv_at hl 3 rfl) ?_
  refine lv_aload_n hx hb dL_law_946 rfl (lv_at hl 4 rfl) ?_
  refine lv_iload hx hb dL_law_947 (lv_at hl 0 rfl) ?_
  refine ty_iconst hx hb (1) dL_law_949 (by decide) (fun x1079 h1080 => ?_)
  refine ty_iadd hx hb dL_law_950 (fun x1081 h1082 => ?_)
  have h1083 := lw_ix (k := 1) h1080 h1082 hi0 hiL hLN (by decide)
  refine va_sld hx hb hXs hbl hbA hS (i := x1081) (ty_ix h1083.2) dL_law_951 ?_
  refine W.eq (g2 := F0 m 952 ls [.int (xs (i.toInt.toNat + 1)), .ref q1]) (by rw [lw_xs (xs := xs) h1083.1 hi0.1]) ?_
  clear h1083 h1082 h1080
  refine lv_topi (fun x1084 s1085 => ?_)
  refine lv_aload_n hx hb dL_law_952 rfl (lv_at hl 4 rfl) ?_
  refine lv_iload hx hb dL_law_953 (lv_at hl 0 rfl) ?_
  refine ty_iconst hx hb (2) dL_law_955 (by decide) (fun x1086 h1087 => ?_)
  refine ty_iadd hx hb dL_law_956 (fun x1088 h1089 => ?_)
  have h1090 := lw_ix (k := 2) h1087 h1089 hi0 hiL hLN (by decide)
  refine va_sld hx hb hXs hbl hbA hS (i := x1088) (ty_ix h1090.2) dL_law_957 ?_
  refine W.eq (g2 := F0 m 958 ls [.int (xs (i.toInt.toNat + 2)), .int x1084, .ref q1]) (by rw [lw_xs (xs := xs) h1090.1 hi0.1]) ?_
  clear h1090 h1089 h1087
  refine lv_topi (fun x1091 s1092 => ?_)
  refine lv_aload_n hx hb dL_law_958 rfl (lv_at hl 1 rfl) ?_
  refine vx_calli (vx_runSX (As := [.ref q1, .int x1084, .int x1091, .ref q29]) (rest := []) ⟨hx, hb, hml, hown, hA⟩ (k_L_of l hl9 dC dI dA sz X Γ hU g q1 t_q1 x1084 x1091 q29 t_q29 (RL_3 hRL)) (vx_cwSW 4 hA (al_s4 (al wt_4_52 rfl) wd_4_50 wd_4_51 wd_1_0) rfl rfl rfl (by decide +kernel) ⟨Nat.le_of_ble_eq_true rfl, Nat.le_of_ble_eq_true rfl⟩) ⟨bl, fun U hU9 hW9 => ⟨rfl, by rw [hU9]; exact hG, hE.go hS hU9 hW9⟩⟩ rfl rfl hl.1 rfl (lv_room (Nat.le_of_ble_eq_true rfl)) dL_law_959 ⟨(Nat.le_trans (show kc + 1 ≤ 300000 by omega) (Nat.le_of_ble_eq_true rfl)), (Nat.le_trans (show ks + 6 ≤ 300000 by omega) (Nat.le_of_ble_eq_true rfl))⟩) hS (fun _ _ h => h) (fun _ h => h) (fun _ _ h => h) (fun E ce q9 u t H1 locs1 ht _ hp hB _ _ hS hce hcv hcl => hp.elim) (fun x1093 u1094 t9 H locs ht9 _ w1095 hB _ _ hS => ?_)
  have hG : ty_ok (dC, dI) vwCl Γ (TP dA Γ u1094) sz X H := by rw [← ht9]; exact hB
  rw [show u1094 = g from w1095] at hG
  clear hB
  refine lv_istore (lv' := [(5, .int x1093), (4, .int i), (3, .ref q29), (2, .ref q13), (1, .ref q1), (0, .ref b)]) hx hb dL_law_962 hl (by decide) rfl (fun ls hl => ?_)
  refine lv_aload_n hx hb dL_law_964 rfl (lv_at hl 3 rfl) ?_
  refine lv_aload_n hx hb dL_law_965 rfl (lv_at hl 5 rfl) ?_
  refine lv_iload hx hb dL_law_966 (lv_at hl 1 rfl) ?_
  refine ty_iconst hx hb (1) dL_law_968 (by decide) (fun x1096 h1097 => ?_)
  refine ty_iadd hx hb dL_law_969 (fun x1098 h1099 => ?_)
  have h1100 := lw_ix (k := 1) h1097 h1099 hi0 hiL hLN (by decide)
  refine va_sld hx hb hXs hbl hbA hS (i := x1098) (ty_ix h1100.2) dL_law_970 ?_
  refine W.eq (g2 := F0 m 971 ls [.int (xs (i.toInt.toNat + 1)), .ref q13]) (by rw [lw_xs (xs := xs) h1100.1 hi0.1]) ?_
  clear h1100 h1099 h1097
  refine W.eq (g2 := F0 m 971 ls [.int x1084, .ref q13]) (by rw [s1085]) ?_
  refine lv_aload_n hx hb dL_law_971 rfl (lv_at hl 5 rfl) ?_
  refine lv_iload hx hb dL_law_972 (lv_at hl 1 rfl) ?_
  refine ty_iconst hx hb (2) dL_law_974 (by decide) (fun x1101 h1102 => ?_)
  refine ty_iadd hx hb dL_law_975 (fun x1103 h1104 => ?_)
  have h1105 := lw_ix (k := 2) h1102 h1104 hi0 hiL hLN (by decide)
  refine va_sld hx hb hXs hbl hbA hS (i := x1103) (ty_ix h1105.2) dL_law_976 ?_
  refine W.eq (g2 := F0 m 977 ls [.int (xs (i.toInt.toNat + 2)), .int x1084, .ref q13]) (by rw [lw_xs (xs := xs) h1105.1 hi0.1]) ?_
  clear h1105 h1104 h1102
  refine W.eq (g2 := F0 m 977 ls [.int x1091, .int x1084, .ref q13]) (by rw [s1092]) ?_
  refine cI (va_runV (C := RX9) (As := [.int x1084, .int x1091]) (rest := []) ⟨hx, hb, hml, hown, hA⟩ (k_X9_of l dC dI dA sz X Γ hU g q13 t_q13 x1084 x1091   (RM_126 hRL rfl)) ⟨callB_of 2 hA (al_A wd_5_230) rfl rfl rfl (hA _ wd_1_7) (hA _ wd_5_227) (by decide +kernel) ⟨Nat.le_of_ble_eq_true rfl, Nat.le_of_ble_eq_true rfl⟩, hA _ wd_5_228, hA _ wd_5_229⟩ ⟨bl, recv_X9 hE hG t_q13, fun U hU9 hW9 => ⟨rfl, by rw [hU9]; exact hG, hE.go hS hU9 hW9⟩⟩ rfl rfl hl.1 rfl (lv_room (Nat.le_of_ble_eq_true rfl)) dL_law_977 ⟨(Nat.le_trans (show (kc + 1) + 0 ≤ 300000 by omega) (Nat.le_of_ble_eq_true rfl)), (Nat.le_trans (show (ks + 6) + 0 ≤ 300000 by omega) (Nat.le_of_ble_eq_true rfl))⟩) hS (fun x1108 u1106 H locs w1107 hG hS => ?_)
  obtain ⟨hf1110, hq1109⟩ := w1107
  replace hq1109 := HD.mk hq1109
  have hw1111 : ∀ c, c ∉ ([100] : List Nat) → u1106 c = g c := fun c hc => funext fun j => hf1110 c j (fun q => hc (by rw [q]; decide))
  have hst1112 := RL_100 hRL hw1111
  refine lv_istore (lv' := [(6, .int x1108), (5, .int x1093), (4, .int i), (3, .ref q29), (2, .ref q13), (1, .ref q1), (0, .ref b)]) hx hb dL_law_980 hl (by decide) rfl (fun ls hl => ?_)
  refine lv_goto (tgt := 1047) hx hb dL_law_982 (by decide) ?_
  obtain ⟨x1113, h1114⟩ : ∃ y : Int32, y = i + Int32.ofInt (6) := ⟨_, rfl⟩
  try have h1115 : x1113.toInt = i.toInt + (6) := ty_inc h1114 (by decide) (by omega) (by omega)
  refine lv_iinc (v := x1113) (lv' := [(4, .int x1113), (6, .int x1108), (5, .int x1093), (3, .ref q29), (2, .ref q13), (1, .ref q1), (0, .ref b)]) hx hb dL_law_1047 hl (k := 2) rfl h1114.symm (by decide) rfl (fun ls hl => ?_)
  refine lv_goto (tgt := 23) hx hb dL_law_1050 (by decide) ?_
  exact ih x1113 Γ u1106 ((kc + 1)) ((ks + 6)) _ _ ls (by omega) (by omega) (by have a9 := congrFun (hw1111 4 (by decide)) 0; have b9 := True.intro; omega) hst1112 (IJ_e hIJ (hw1111 126 (by decide)) (hw1111 132 (by decide)) (hw1111 134 (by decide))) (Bd_e hBd (hw1111 33 (by decide)) (hw1111 34 (by decide)) (hw1111 35 (by decide))) hU t_q1 t_q13 t_q29 (by omega) (by omega) hG hS (lv_sub hl [0, 3, 4, 5, 6] rfl)
set_option maxHeartbeats 40000000 in
set_option maxRecDepth 100000 in
/-- the law's case 22 -/
theorem law_c22 {p : Program} {e : Env} {s : State} {m : MethodId} {below : List Frame} {meth : Method} {c : Code} (l : Launch) (hl9 : l.stackTraces = false) {b L : Nat} {xs : Nat → Int32} (hLN : L ≤ 3072) (hx : p.tables.exec = Jvm.exec) (hb : c.code = code) (hr : meth.sig.returnType = ret) (hml : c.maxLocals = 7) (hown : s.vm.findClass R_law = some m.cls) (hA : ∀ w ∈ AL, w.before #[Value.ref b] s = true) (hXs : va_X b L xs s s.heap) (hbl : b < s.heap.size) (hlocks : meth.locks = false) {dC : Nat → ClassId} {dI : Nat → Nat → Nat} {dA : Nat → ClassId} {sz : Nat} (hE : en dC dI dA sz s) (hsz : sz = s.heap.size) (hbA : ¬ ty_A sz b) (X : va_W) (q1 q13 q29 : Nat) (n : Nat) (ih : LJ p l e s m below meth c b dC dI dA sz X q1 q13 q29 n) (i : Int32) (Γ : ty_G) (g : gh) (kc ks : Nat) (H : Heap) (locs : List Loc) (ls : Array Slot) (hm : (3073 - i.toInt : Int) < (n + 1 : Nat)) (hi0 : 0 ≤ i.toInt ∧ i.toInt ≤ 3072) (hy4 : g 4 0 ≤ i.toInt) (hRL : RLA g) (hIJ : IJ g) (hBd : Bd Γ g) (hU : Un Γ) (t_q1 : ty Γ q1 1) (t_q13 : ty Γ q13 30) (t_q29 : ty Γ q29 25) (hkc : kc ≤ 300 + i.toInt.toNat) (hks : ks ≤ 30000 + 28 * i.toInt.toNat) (hG : ty_ok (dC, dI) vwCl Γ (TP dA Γ g) sz X H) (hS : va_S (ty_A sz) s.heap H locs) (hl : lv_has ls 7 [(4, .int i), (3, .ref q29), (2, .ref q13), (1, .ref q1), (0, .ref b)]) (hiL : i.toInt + 6 ≤ (L : Int)) : W p l e room_1 s m #[Value.ref b] below meth c H locs kc ks (lw_Z below #[Value.ref b] s) (F0 m 985 ls []) := by
  refine lv_aload_n hx hb dL_law_985 rfl (lv_at hl 3 rfl) ?_
  refine lv_aload_n hx hb dL_law_986 rfl (lv_at hl 4 rfl) ?_
  refine lv_iload hx hb dL_law_987 (lv_at hl 0 rfl) ?_
  refine ty_iconst hx hb (1) dL_law_989 (by decide) (fun x1116 h1117 => ?_)
  refine ty_iadd hx hb dL_law_990 (fun x1118 h1119 => ?_)
  have h1120 := lw_ix (k := 1) h1117 h1119 hi0 hiL hLN (by decide)
  refine va_sld hx hb hXs hbl hbA hS (i := x1118) (ty_ix h1120.2) dL_law_991 ?_
  refine W.eq (g2 := F0 m 992 ls [.int (xs (i.toInt.toNat + 1)), .ref q1]) (by rw [lw_xs (xs := xs) h1120.1 hi0.1]) ?_
  clear h1120 h1119 h1117
  refine lv_topi (fun x1121 s1122 => ?_)
  refine lv_aload_n hx hb dL_law_992 rfl (lv_at hl 4 rfl) ?_
  refine lv_iload hx hb dL_law_993 (lv_at hl 0 rfl) ?_
  refine ty_iconst hx hb (2) dL_law_995 (by decide) (fun x1123 h1124 => ?_)
  refine ty_iadd hx hb dL_law_996 (fun x1125 h1126 => ?_)
  have h1127 := lw_ix (k := 2) h1124 h1126 hi0 hiL hLN (by decide)
  refine va_sld hx hb hXs hbl hbA hS (i := x1125) (ty_ix h1127.2) dL_law_997 ?_
  refine W.eq (g2 := F0 m 998 ls [.int (xs (i.toInt.toNat + 2)), .int x1121, .ref q1]) (by rw [lw_xs (xs := xs) h1127.1 hi0.1]) ?_
  clear h1127 h1126 h1124
  refine lv_topi (fun x1128 s1129 => ?_)
  refine cI (va_runV (C := RX8) (As := [.int x1121, .int x1128]) (rest := []) ⟨hx, hb, hml, hown, hA⟩ (k_X8_ownerOf l dC dI dA sz X Γ hU g q1 t_q1 x1121 x1128   (RL_2 hRL)) ⟨callB_of 2 hA (al_A wd_4_41) rfl rfl rfl (hA _ wd_1_1) (hA _ wd_4_38) (by decide +kernel) ⟨Nat.le_of_ble_eq_true rfl, Nat.le_of_ble_eq_true rfl⟩, hA _ wd_4_39, hA _ wd_4_40⟩ ⟨bl, recv_X8 hE hG t_q1, fun U hU9 hW9 => ⟨rfl, by rw [hU9]; exact hG, hE.go hS hU9 hW9⟩⟩ rfl rfl hl.1 rfl (lv_room (Nat.le_of_ble_eq_true rfl)) dL_law_998 ⟨(Nat.le_trans (show kc + 0 ≤ 300000 by omega) (Nat.le_of_ble_eq_true rfl)), (Nat.le_trans (show ks + 0 ≤ 300000 by omega) (Nat.le_of_ble_eq_true rfl))⟩) hS (fun x1132 u1130 H locs w1131 hG hS => ?_)
  obtain ⟨eu1133, w1131⟩ := w1131
  rw [eu1133] at hG
  replace w1131 := HD.mk w1131
  refine lv_pop hx hb dL_law_1001 rfl ?_
  refine lv_aload_n hx hb dL_law_1002 rfl (lv_at hl 2 rfl) ?_
  refine lv_aload_n hx hb dL_law_1003 rfl (lv_at hl 4 rfl) ?_
  refine lv_iload hx hb dL_law_1004 (lv_at hl 0 rfl) ?_
  refine ty_iconst hx hb (1) dL_law_1006 (by decide) (fun x1134 h1135 => ?_)
  refine ty_iadd hx hb dL_law_1007 (fun x1136 h1137 => ?_)
  have h1138 := lw_ix (k := 1) h1135 h1137 hi0 hiL hLN (by decide)
  refine va_sld hx hb hXs hbl hbA hS (i := x1136) (ty_ix h1138.2) dL_law_1008 ?_
  refine W.eq (g2 := F0 m 1009 ls [.int (xs (i.toInt.toNat + 1)), .ref q13]) (by rw [lw_xs (xs := xs) h1138.1 hi0.1]) ?_
  clear h1138 h1137 h1135
  refine W.eq (g2 := F0 m 1009 ls [.int x1121, .ref q13]) (by rw [s1122]) ?_
  refine lv_aload_n hx hb dL_law_1009 rfl (lv_at hl 4 rfl) ?_
  refine lv_iload hx hb dL_law_1010 (lv_at hl 0 rfl) ?_
  refine ty_iconst hx hb (2) dL_law_1012 (by decide) (fun x1139 h1140 => ?_)
  refine ty_iadd hx hb dL_law_1013 (fun x1141 h1142 => ?_)
  have h1143 := lw_ix (k := 2) h1140 h1142 hi0 hiL hLN (by decide)
  refine va_sld hx hb hXs hbl hbA hS (i := x1141) (ty_ix h1143.2) dL_law_1014 ?_
  refine W.eq (g2 := F0 m 1015 ls [.int (xs (i.toInt.toNat + 2)), .int x1121, .ref q13]) (by rw [lw_xs (xs := xs) h1143.1 hi0.1]) ?_
  clear h1143 h1142 h1140
  refine W.eq (g2 := F0 m 1015 ls [.int x1128, .int x1121, .ref q13]) (by rw [s1129]) ?_
  refine cI (va_runV (C := RX9) (As := [.int x1121, .int x1128]) (rest := []) ⟨hx, hb, hml, hown, hA⟩ (k_X9_ownerOf l dC dI dA sz X Γ hU g q13 t_q13 x1121 x1128   (RM_104 hRL rfl)) ⟨callB_of 2 hA (al_A wd_5_234) rfl rfl rfl (hA _ wd_1_7) (hA _ wd_5_231) (by decide +kernel) ⟨Nat.le_of_ble_eq_true rfl, Nat.le_of_ble_eq_true rfl⟩, hA _ wd_5_232, hA _ wd_5_233⟩ ⟨bl, recv_X9 hE hG t_q13, fun U hU9 hW9 => ⟨rfl, by rw [hU9]; exact hG, hE.go hS hU9 hW9⟩⟩ rfl rfl hl.1 rfl (lv_room (Nat.le_of_ble_eq_true rfl)) dL_law_1015 ⟨(Nat.le_trans (show kc + 0 ≤ 300000 by omega) (Nat.le_of_ble_eq_true rfl)), (Nat.le_trans (show ks + 0 ≤ 300000 by omega) (Nat.le_of_ble_eq_true rfl))⟩) hS (fun x1146 u1144 H locs w1145 hG hS => ?_)
  obtain ⟨hf1147, w1145⟩ := w1145
  replace w1145 := HD.mk w1145
  have hw1148 : ∀ c, c ∉ ([100] : List Nat) → u1144 c = g c := fun c hc => funext fun j => hf1147 c j (fun q => hc (by rw [q]; decide))
  have hst1149 := st_ownerOf (g := g) (u1 := g) (u2 := u1144) (r1 := x1132) (r2 := x1146) hRL (fun _ _ => rfl) hw1148 w1131.v w1145.v
  have hrr1150 := hst1149.2
  refine lv_pop hx hb dL_law_1018 rfl ?_
  refine lv_goto (tgt := 1047) hx hb dL_law_1019 (by decide) ?_
  obtain ⟨x1151, h1152⟩ : ∃ y : Int32, y = i + Int32.ofInt (6) := ⟨_, rfl⟩
  try have h1153 : x1151.toInt = i.toInt + (6) := ty_inc h1152 (by decide) (by omega) (by omega)
  refine lv_iinc (v := x1151) (lv' := [(4, .int x1151), (3, .ref q29), (2, .ref q13), (1, .ref q1), (0, .ref b)]) hx hb dL_law_1047 hl (k := 0) rfl h1152.symm (by decide) rfl (fun ls hl => ?_)
  refine lv_goto (tgt := 23) hx hb dL_law_1050 (by decide) ?_
  exact ih x1151 Γ u1144 (kc) (ks) _ _ ls (by omega) (by omega) (by have a9 := congrFun (hw1148 4 (by decide)) 0; have b9 := True.intro; omega) hst1149.1 (IJ_e hIJ (hw1148 126 (by decide)) (hw1148 132 (by decide)) (hw1148 134 (by decide))) (Bd_e hBd (hw1148 33 (by decide)) (hw1148 34 (by decide)) (hw1148 35 (by decide))) hU t_q1 t_q13 t_q29 (by omega) (by omega) hG hS (lv_sub hl [0, 1, 2, 3, 4] rfl)
set_option maxHeartbeats 40000000 in
set_option maxRecDepth 100000 in
/-- the law's case 23 -/
theorem law_c23 {p : Program} {e : Env} {s : State} {m : MethodId} {below : List Frame} {meth : Method} {c : Code} (l : Launch) (hl9 : l.stackTraces = false) {b L : Nat} {xs : Nat → Int32} (hLN : L ≤ 3072) (hx : p.tables.exec = Jvm.exec) (hb : c.code = code) (hr : meth.sig.returnType = ret) (hml : c.maxLocals = 7) (hown : s.vm.findClass R_law = some m.cls) (hA : ∀ w ∈ AL, w.before #[Value.ref b] s = true) (hXs : va_X b L xs s s.heap) (hbl : b < s.heap.size) (hlocks : meth.locks = false) {dC : Nat → ClassId} {dI : Nat → Nat → Nat} {dA : Nat → ClassId} {sz : Nat} (hE : en dC dI dA sz s) (hsz : sz = s.heap.size) (hbA : ¬ ty_A sz b) (X : va_W) (q1 q13 q29 : Nat) (n : Nat) (ih : LJ p l e s m below meth c b dC dI dA sz X q1 q13 q29 n) (i : Int32) (Γ : ty_G) (g : gh) (kc ks : Nat) (H : Heap) (locs : List Loc) (ls : Array Slot) (hm : (3073 - i.toInt : Int) < (n + 1 : Nat)) (hi0 : 0 ≤ i.toInt ∧ i.toInt ≤ 3072) (hy4 : g 4 0 ≤ i.toInt) (hRL : RLA g) (hIJ : IJ g) (hBd : Bd Γ g) (hU : Un Γ) (t_q1 : ty Γ q1 1) (t_q13 : ty Γ q13 30) (t_q29 : ty Γ q29 25) (hkc : kc ≤ 300 + i.toInt.toNat) (hks : ks ≤ 30000 + 28 * i.toInt.toNat) (hG : ty_ok (dC, dI) vwCl Γ (TP dA Γ g) sz X H) (hS : va_S (ty_A sz) s.heap H locs) (hl : lv_has ls 7 [(4, .int i), (3, .ref q29), (2, .ref q13), (1, .ref q1), (0, .ref b)]) (hiL : i.toInt + 6 ≤ (L : Int)) : W p l e room_1 s m #[Value.ref b] below meth c H locs kc ks (lw_Z below #[Value.ref b] s) (F0 m 1022 ls []) := by
  refine lv_aload_n hx hb dL_law_1022 rfl (lv_at hl 3 rfl) ?_
  refine lv_aload_n hx hb dL_law_1023 rfl (lv_at hl 4 rfl) ?_
  refine lv_iload hx hb dL_law_1024 (lv_at hl 0 rfl) ?_
  refine ty_iconst hx hb (1) dL_law_1026 (by decide) (fun x1154 h1155 => ?_)
  refine ty_iadd hx hb dL_law_1027 (fun x1156 h1157 => ?_)
  have h1158 := lw_ix (k := 1) h1155 h1157 hi0 hiL hLN (by decide)
  refine va_sld hx hb hXs hbl hbA hS (i := x1156) (ty_ix h1158.2) dL_law_1028 ?_
  refine W.eq (g2 := F0 m 1029 ls [.int (xs (i.toInt.toNat + 1)), .ref q1]) (by rw [lw_xs (xs := xs) h1158.1 hi0.1]) ?_
  clear h1158 h1157 h1155
  refine lv_topi (fun x1159 s1160 => ?_)
  refine cI (va_runV (C := RX8) (As := [.int x1159]) (rest := []) ⟨hx, hb, hml, hown, hA⟩ (k_X8_count l dC dI dA sz X Γ hU g q1 t_q1 x1159   (RL_2 hRL) (RL_3 hRL)) ⟨callB_of 1 hA (al_A wd_4_45) rfl rfl rfl (hA _ wd_1_1) (hA _ wd_4_42) (by decide +kernel) ⟨Nat.le_of_ble_eq_true rfl, Nat.le_of_ble_eq_true rfl⟩, hA _ wd_4_43, hA _ wd_4_44⟩ ⟨bl, recv_X8 hE hG t_q1, fun U hU9 hW9 => ⟨rfl, by rw [hU9]; exact hG, hE.go hS hU9 hW9⟩⟩ rfl rfl hl.1 rfl (lv_room (Nat.le_of_ble_eq_true rfl)) dL_law_1029 ⟨(Nat.le_trans (show kc + 0 ≤ 300000 by omega) (Nat.le_of_ble_eq_true rfl)), (Nat.le_trans (show ks + 0 ≤ 300000 by omega) (Nat.le_of_ble_eq_true rfl))⟩) hS (fun x1163 u1161 H locs w1162 hG hS => ?_)
  obtain ⟨eu1164, w1162⟩ := w1162
  rw [eu1164] at hG
  replace w1162 := HD.mk w1162
  refine lv_aload_n hx hb dL_law_1032 rfl (lv_at hl 2 rfl) ?_
  refine lv_aload_n hx hb dL_law_1033 rfl (lv_at hl 4 rfl) ?_
  refine lv_iload hx hb dL_law_1034 (lv_at hl 0 rfl) ?_
  refine ty_iconst hx hb (1) dL_law_1036 (by decide) (fun x1165 h1166 => ?_)
  refine ty_iadd hx hb dL_law_1037 (fun x1167 h1168 => ?_)
  have h1169 := lw_ix (k := 1) h1166 h1168 hi0 hiL hLN (by decide)
  refine va_sld hx hb hXs hbl hbA hS (i := x1167) (ty_ix h1169.2) dL_law_1038 ?_
  refine W.eq (g2 := F0 m 1039 ls [.int (xs (i.toInt.toNat + 1)), .ref q13, .int x1163]) (by rw [lw_xs (xs := xs) h1169.1 hi0.1]) ?_
  clear h1169 h1168 h1166
  refine W.eq (g2 := F0 m 1039 ls [.int x1159, .ref q13, .int x1163]) (by rw [s1160]) ?_
  refine cI (va_runV (C := RX9) (As := [.int x1159]) (rest := [.int x1163]) ⟨hx, hb, hml, hown, hA⟩ (k_X9_count l dC dI dA sz X Γ hU g q13 t_q13 x1159   (RM_104 hRL rfl) (RM_126 hRL rfl) (RM_122 hRL rfl)) ⟨callB_of 1 hA (al_A wd_5_238) rfl rfl rfl (hA _ wd_1_7) (hA _ wd_5_235) (by decide +kernel) ⟨Nat.le_of_ble_eq_true rfl, Nat.le_of_ble_eq_true rfl⟩, hA _ wd_5_236, hA _ wd_5_237⟩ ⟨bl, recv_X9 hE hG t_q13, fun U hU9 hW9 => ⟨rfl, by rw [hU9]; exact hG, hE.go hS hU9 hW9⟩⟩ rfl rfl hl.1 rfl (lv_room (Nat.le_of_ble_eq_true rfl)) dL_law_1039 ⟨(Nat.le_trans (show kc + 0 ≤ 300000 by omega) (Nat.le_of_ble_eq_true rfl)), (Nat.le_trans (show ks + 0 ≤ 300000 by omega) (Nat.le_of_ble_eq_true rfl))⟩) hS (fun x1172 u1170 H locs w1171 hG hS => ?_)
  obtain ⟨hf1173, w1171⟩ := w1171
  replace w1171 := HD.mk w1171
  have hw1174 : ∀ c, c ∉ ([100] : List Nat) → u1170 c = g c := fun c hc => funext fun j => hf1173 c j (fun q => hc (by rw [q]; decide))
  have hst1175 := st_count (g := g) (u1 := g) (u2 := u1170) (r1 := x1163) (r2 := x1172) hRL (fun _ _ => rfl) hw1174 w1162.v w1171.v
  have hrr1176 := hst1175.2
  refine ty_icmp_eq (tgt := 1047) hx hb dL_law_1042 (by decide) (fun c1177 => ?_) (fun c1177 => ?_)
  · skip
    obtain ⟨x1178, h1179⟩ : ∃ y : Int32, y = i + Int32.ofInt (6) := ⟨_, rfl⟩
    try have h1180 : x1178.toInt = i.toInt + (6) := ty_inc h1179 (by decide) (by omega) (by omega)
    refine lv_iinc (v := x1178) (lv' := [(4, .int x1178), (3, .ref q29), (2, .ref q13), (1, .ref q1), (0, .ref b)]) hx hb dL_law_1047 hl (k := 0) rfl h1179.symm (by decide) rfl (fun ls hl => ?_)
    refine lv_goto (tgt := 23) hx hb dL_law_1050 (by decide) ?_
    exact ih x1178 Γ u1170 (kc) (ks) _ _ ls (by omega) (by omega) (by have a9 := congrFun (hw1174 4 (by decide)) 0; have b9 := True.intro; omega) hst1175.1 (IJ_e hIJ (hw1174 126 (by decide)) (hw1174 132 (by decide)) (hw1174 134 (by decide))) (Bd_e hBd (hw1174 33 (by decide)) (hw1174 34 (by decide)) (hw1174 35 (by decide))) hU t_q1 t_q13 t_q29 (by omega) (by omega) hG hS (lv_sub hl [0, 1, 2, 3, 4] rfl)
  · exfalso; omega
