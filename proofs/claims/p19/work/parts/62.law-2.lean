set_option maxHeartbeats 40000000 in
set_option maxRecDepth 100000 in
/-- the law's case 8 -/
theorem law_c8 {p : Program} {e : Env} {s : State} {m : MethodId} {below : List Frame} {meth : Method} {c : Code} (l : Launch) (hl9 : l.stackTraces = false) {b L : Nat} {xs : Nat → Int32} (hLN : L ≤ 3072) (hx : p.tables.exec = Jvm.exec) (hb : c.code = code) (hr : meth.sig.returnType = ret) (hml : c.maxLocals = 7) (hown : s.vm.findClass R_law = some m.cls) (hA : ∀ w ∈ AL, w.before #[Value.ref b] s = true) (hXs : va_X b L xs s s.heap) (hbl : b < s.heap.size) (hlocks : meth.locks = false) {dC : Nat → ClassId} {dI : Nat → Nat → Nat} {dA : Nat → ClassId} {sz : Nat} (hE : en dC dI dA sz s) (hsz : sz = s.heap.size) (hbA : ¬ ty_A sz b) (X : va_W) (q1 q12 q25 : Nat) (n : Nat) (ih : LJ p l e s m below meth c b dC dI dA sz X q1 q12 q25 n) (i : Int32) (Γ : ty_G) (g : gh) (kc ks : Nat) (H : Heap) (locs : List Loc) (ls : Array Slot) (hm : (3073 - i.toInt : Int) < (n + 1 : Nat)) (hi0 : 0 ≤ i.toInt ∧ i.toInt ≤ 3072) (hi1 : g 1 0 = g 33 0 ∧ 0 ≤ g 1 0 ∧ g 1 0 ≤ 6) (hi2 : g 2 0 = g 34 0 ∧ 0 ≤ g 2 0 ∧ g 2 0 ≤ 10) (hi3 : g 3 0 = g 35 0 ∧ 0 ≤ g 3 0 ∧ g 3 0 ≤ 200) (hi4 : 0 ≤ g 5 0 ∧ g 5 0 ≤ 52) (hi5 : 0 ≤ g 4 0 ∧ g 4 0 ≤ i.toInt) (hi6 : 0 ≤ g 6 0 ∧ g 6 0 ≤ 300) (hi7 : 0 ≤ g 7 0 ∧ g 7 0 ≤ g 36 0 ∧ g 36 0 ≤ 9) (hi8 : g 101 0 = g 1 0) (hi9 : g 104 0 = g 2 0) (hi10 : g 112 0 = g 5 0) (hi11 : g 111 0 = g 4 0) (hi12 : g 114 0 = g 6 0) (hi13 : 0 ≤ g 126 0 ∧ g 126 0 ≤ 200) (hi14 : 0 ≤ g 122 0 ∧ g 122 0 ≤ 30) (hIJ : IJ g) (hU : Un Γ) (t_q1 : ty Γ q1 1) (t_q12 : ty Γ q12 30) (t_q25 : ty Γ q25 25) (hkc : kc ≤ 300 + i.toInt.toNat) (hks : ks ≤ 30000 + 28 * i.toInt.toNat) (hG : ty_ok (dC, dI) vwCl Γ (TP dA Γ g) sz X H) (hS : va_S (ty_A sz) s.heap H locs) (hl : lv_has ls 7 [(4, .int i), (3, .ref q25), (2, .ref q12), (1, .ref q1), (0, .ref b)]) (hiL : i.toInt + 6 ≤ (L : Int)) : W p l e room_1 s m #[Value.ref b] below meth c H locs kc ks (lw_Z below #[Value.ref b] s) (F0 m 424 ls []) := by
  refine lv_aload_n hx hb dL_law_424 rfl (lv_at hl 3 rfl) ?_
  refine lv_aload_n hx hb dL_law_425 rfl (lv_at hl 4 rfl) ?_
  refine lv_iload hx hb dL_law_426 (lv_at hl 0 rfl) ?_
  refine ty_iconst hx hb (1) dL_law_428 (by decide) (fun x498 h499 => ?_)
  refine ty_iadd hx hb dL_law_429 (fun x500 h501 => ?_)
  have h502 := lw_ix (k := 1) h499 h501 hi0 hiL hLN (by decide)
  refine va_sld hx hb hXs hbl hbA hS (i := x500) (ty_ix h502.2) dL_law_430 ?_
  refine W.eq (g2 := F0 m 431 ls [.int (xs (i.toInt.toNat + 1)), .ref q1]) (by rw [lw_xs (xs := xs) h502.1 hi0.1]) ?_
  clear h502 h501 h499
  refine lv_topi (fun x503 s504 => ?_)
  refine lv_aload_n hx hb dL_law_431 rfl (lv_at hl 4 rfl) ?_
  refine lv_iload hx hb dL_law_432 (lv_at hl 0 rfl) ?_
  refine ty_iconst hx hb (2) dL_law_434 (by decide) (fun x505 h506 => ?_)
  refine ty_iadd hx hb dL_law_435 (fun x507 h508 => ?_)
  have h509 := lw_ix (k := 2) h506 h508 hi0 hiL hLN (by decide)
  refine va_sld hx hb hXs hbl hbA hS (i := x507) (ty_ix h509.2) dL_law_436 ?_
  refine W.eq (g2 := F0 m 437 ls [.int (xs (i.toInt.toNat + 2)), .int x503, .ref q1]) (by rw [lw_xs (xs := xs) h509.1 hi0.1]) ?_
  clear h509 h508 h506
  refine lv_topi (fun x510 s511 => ?_)
  refine lv_aload_n hx hb dL_law_437 rfl (lv_at hl 4 rfl) ?_
  refine lv_iload hx hb dL_law_438 (lv_at hl 0 rfl) ?_
  refine ty_iconst hx hb (3) dL_law_440 (by decide) (fun x512 h513 => ?_)
  refine ty_iadd hx hb dL_law_441 (fun x514 h515 => ?_)
  have h516 := lw_ix (k := 3) h513 h515 hi0 hiL hLN (by decide)
  refine va_sld hx hb hXs hbl hbA hS (i := x514) (ty_ix h516.2) dL_law_442 ?_
  refine W.eq (g2 := F0 m 443 ls [.int (xs (i.toInt.toNat + 3)), .int x510, .int x503, .ref q1]) (by rw [lw_xs (xs := xs) h516.1 hi0.1]) ?_
  clear h516 h515 h513
  refine lv_topi (fun x517 s518 => ?_)
  refine cIB (va_runV (C := RX8) (As := [.int x503, .int x510, .int x517]) (rest := []) ⟨hx, hb, hml, hown, hA⟩ (k_X8_give l dC dI dA sz X Γ hU g q1 t_q1 x503 x510 x517   (by first | with_reducible assumption | omega) (by first | with_reducible assumption | omega) (by first | with_reducible assumption | omega)) ⟨callB_of 3 hA (al_A wd_3_4) rfl rfl rfl (hA _ wd_1_1) (hA _ wd_3_1) (by decide +kernel) ⟨Nat.le_of_ble_eq_true rfl, Nat.le_of_ble_eq_true rfl⟩, hA _ wd_3_2, hA _ wd_3_3⟩ ⟨bl, recv_X8 hE hG t_q1, fun U hU9 hW9 => ⟨rfl, by rw [hU9]; exact hG, hE.go hS hU9 hW9⟩⟩ rfl rfl hl.1 rfl (lv_room (Nat.le_of_ble_eq_true rfl)) dL_law_443 ⟨(Nat.le_trans (show kc + 1 ≤ 300000 by omega) (Nat.le_of_ble_eq_true rfl)), (Nat.le_trans (show ks + 10 ≤ 300000 by omega) (Nat.le_of_ble_eq_true rfl))⟩) hS (fun x521 u519 H locs w520 hG hS => ?_)
  obtain ⟨Γ522, g523⟩ := u519
  dsimp only at w520 hG
  obtain ⟨hx524, hU, hf525, w526⟩ := w520
  have hj528 : IJ g523 := IJ_cg (hf525 126 0 (by decide) (by decide)) (fun j => hf525 132 j (by decide) (by decide)) (fun j => hf525 134 j (by decide) (by decide)) (by (repeat (first | with_reducible assumption | (refine IJ_c (by decide) (by decide) (by decide) ?_) | (refine IJ_take (by omega) (by omega) ?_) | (refine IJ_how (by omega) ?_) | (refine IJ_by (by omega) ?_))))
  have hX529 : ext Γ Γ522 := ext.trans ext.rf hx524
  replace t_q25 : ty Γ522 q25 25 := hx524.one t_q25 (by decide)
  replace t_q12 : ty Γ522 q12 30 := hx524.one t_q12 (by decide)
  replace t_q1 : ty Γ522 q1 1 := hx524.one t_q1 (by decide)
  refine lv_pop hx hb dL_law_446 rfl ?_
  refine lv_aload_n hx hb dL_law_447 rfl (lv_at hl 2 rfl) ?_
  refine lv_aload_n hx hb dL_law_448 rfl (lv_at hl 4 rfl) ?_
  refine lv_iload hx hb dL_law_449 (lv_at hl 0 rfl) ?_
  refine ty_iconst hx hb (1) dL_law_451 (by decide) (fun x530 h531 => ?_)
  refine ty_iadd hx hb dL_law_452 (fun x532 h533 => ?_)
  have h534 := lw_ix (k := 1) h531 h533 hi0 hiL hLN (by decide)
  refine va_sld hx hb hXs hbl hbA hS (i := x532) (ty_ix h534.2) dL_law_453 ?_
  refine W.eq (g2 := F0 m 454 ls [.int (xs (i.toInt.toNat + 1)), .ref q12]) (by rw [lw_xs (xs := xs) h534.1 hi0.1]) ?_
  clear h534 h533 h531
  refine W.eq (g2 := F0 m 454 ls [.int x503, .ref q12]) (by rw [s504]) ?_
  refine lv_aload_n hx hb dL_law_454 rfl (lv_at hl 4 rfl) ?_
  refine lv_iload hx hb dL_law_455 (lv_at hl 0 rfl) ?_
  refine ty_iconst hx hb (2) dL_law_457 (by decide) (fun x535 h536 => ?_)
  refine ty_iadd hx hb dL_law_458 (fun x537 h538 => ?_)
  have h539 := lw_ix (k := 2) h536 h538 hi0 hiL hLN (by decide)
  refine va_sld hx hb hXs hbl hbA hS (i := x537) (ty_ix h539.2) dL_law_459 ?_
  refine W.eq (g2 := F0 m 460 ls [.int (xs (i.toInt.toNat + 2)), .int x503, .ref q12]) (by rw [lw_xs (xs := xs) h539.1 hi0.1]) ?_
  clear h539 h538 h536
  refine W.eq (g2 := F0 m 460 ls [.int x510, .int x503, .ref q12]) (by rw [s511]) ?_
  refine lv_aload_n hx hb dL_law_460 rfl (lv_at hl 4 rfl) ?_
  refine lv_iload hx hb dL_law_461 (lv_at hl 0 rfl) ?_
  refine ty_iconst hx hb (3) dL_law_463 (by decide) (fun x540 h541 => ?_)
  refine ty_iadd hx hb dL_law_464 (fun x542 h543 => ?_)
  have h544 := lw_ix (k := 3) h541 h543 hi0 hiL hLN (by decide)
  refine va_sld hx hb hXs hbl hbA hS (i := x542) (ty_ix h544.2) dL_law_465 ?_
  refine W.eq (g2 := F0 m 466 ls [.int (xs (i.toInt.toNat + 3)), .int x510, .int x503, .ref q12]) (by rw [lw_xs (xs := xs) h544.1 hi0.1]) ?_
  clear h544 h543 h541
  refine W.eq (g2 := F0 m 466 ls [.int x517, .int x510, .int x503, .ref q12]) (by rw [s518]) ?_
  have hk545 : g523 101 0 = g 101 0 := hf525 101 0 (by decide) (by decide)
  have hk546 : g523 104 0 = g 104 0 := hf525 104 0 (by decide) (by decide)
  have hk547 : g523 126 0 = g 126 0 := hf525 126 0 (by decide) (by decide)
  have hk548 : g523 122 0 = g 122 0 := hf525 122 0 (by decide) (by decide)
  refine cI (va_runV (C := RX9) (As := [.int x503, .int x510, .int x517]) (rest := []) ⟨hx, hb, hml, hown, hA⟩ (k_X9_give l dC dI dA sz X Γ522 hU g523 q12 t_q12 x503 x510 x517   (by first | with_reducible assumption | omega) (by first | with_reducible assumption | omega) (by first | with_reducible assumption | omega) (by first | with_reducible assumption | omega) (by (repeat (first | with_reducible assumption | (refine IJ_c (by decide) (by decide) (by decide) ?_) | (refine IJ_take (by omega) (by omega) ?_) | (refine IJ_how (by omega) ?_) | (refine IJ_by (by omega) ?_))))) ⟨callB_of 3 hA (al_A wd_5_124) rfl rfl rfl (hA _ wd_1_7) (hA _ wd_5_121) (by decide +kernel) ⟨Nat.le_of_ble_eq_true rfl, Nat.le_of_ble_eq_true rfl⟩, hA _ wd_5_122, hA _ wd_5_123⟩ ⟨bl, recv_X9 hE hG t_q12, fun U hU9 hW9 => ⟨rfl, by rw [hU9]; exact hG, hE.go hS hU9 hW9⟩⟩ rfl rfl hl.1 rfl (lv_room (Nat.le_of_ble_eq_true rfl)) dL_law_466 ⟨(Nat.le_trans (show (kc + 1) + 0 ≤ 300000 by omega) (Nat.le_of_ble_eq_true rfl)), (Nat.le_trans (show (ks + 10) + 0 ≤ 300000 by omega) (Nat.le_of_ble_eq_true rfl))⟩) hS (fun x551 u549 H locs w550 hG hS => ?_)
  obtain ⟨hf553, w550, hq552⟩ := w550
  refine lv_pop hx hb dL_law_469 rfl ?_
  refine lv_goto (tgt := 1047) hx hb dL_law_470 (by decide) ?_
  obtain ⟨x554, h555⟩ : ∃ y : Int32, y = i + Int32.ofInt (6) := ⟨_, rfl⟩
  try have h556 : x554.toInt = i.toInt + (6) := ty_inc h555 (by decide) (by omega) (by omega)
  refine lv_iinc (v := x554) (lv' := [(4, .int x554), (3, .ref q25), (2, .ref q12), (1, .ref q1), (0, .ref b)]) hx hb dL_law_1047 hl (k := 0) rfl h555.symm (by decide) rfl (fun ls hl => ?_)
  refine lv_goto (tgt := 23) hx hb dL_law_1050 (by decide) ?_
  have hk557 : u549 3 0 = g523 3 0 := hf553 3 0 (by decide) (by decide) (by decide) (by decide) (by decide) (by decide) (by decide) (by decide) (by decide) (by decide) (by decide)
  have hk558 : u549 4 0 = g523 4 0 := hf553 4 0 (by decide) (by decide) (by decide) (by decide) (by decide) (by decide) (by decide) (by decide) (by decide) (by decide) (by decide)
  have hk559 : g523 4 0 = g 4 0 := hf525 4 0 (by decide) (by decide)
  have hk560 : u549 35 0 = g523 35 0 := hf553 35 0 (by decide) (by decide) (by decide) (by decide) (by decide) (by decide) (by decide) (by decide) (by decide) (by decide) (by decide)
  exact ih x554 Γ522 u549 ((kc + 1)) ((ks + 10)) _ _ ls (by omega) (by omega) (by rw [hf553 1 0 (by decide) (by decide) (by decide) (by decide) (by decide) (by decide) (by decide) (by decide) (by decide) (by decide) (by decide), hf525 1 0 (by decide) (by decide), hf553 33 0 (by decide) (by decide) (by decide) (by decide) (by decide) (by decide) (by decide) (by decide) (by decide) (by decide) (by decide), hf525 33 0 (by decide) (by decide)]; exact hi1) (by rw [hf553 2 0 (by decide) (by decide) (by decide) (by decide) (by decide) (by decide) (by decide) (by decide) (by decide) (by decide) (by decide), hf525 2 0 (by decide) (by decide), hf553 34 0 (by decide) (by decide) (by decide) (by decide) (by decide) (by decide) (by decide) (by decide) (by decide) (by decide) (by decide), hf525 34 0 (by decide) (by decide)]; exact hi2) (by omega) (by rw [hf553 5 0 (by decide) (by decide) (by decide) (by decide) (by decide) (by decide) (by decide) (by decide) (by decide) (by decide) (by decide), hf525 5 0 (by decide) (by decide)]; exact hi4) (by omega) (by rw [hf553 6 0 (by decide) (by decide) (by decide) (by decide) (by decide) (by decide) (by decide) (by decide) (by decide) (by decide) (by decide), hf525 6 0 (by decide) (by decide)]; exact hi6) (by rw [hf553 7 0 (by decide) (by decide) (by decide) (by decide) (by decide) (by decide) (by decide) (by decide) (by decide) (by decide) (by decide), hf525 7 0 (by decide) (by decide), hf553 36 0 (by decide) (by decide) (by decide) (by decide) (by decide) (by decide) (by decide) (by decide) (by decide) (by decide) (by decide), hf525 36 0 (by decide) (by decide)]; exact hi7) (by rw [hf553 101 0 (by decide) (by decide) (by decide) (by decide) (by decide) (by decide) (by decide) (by decide) (by decide) (by decide) (by decide), hf525 101 0 (by decide) (by decide), hf553 1 0 (by decide) (by decide) (by decide) (by decide) (by decide) (by decide) (by decide) (by decide) (by decide) (by decide) (by decide), hf525 1 0 (by decide) (by decide)]; exact hi8) (by rw [hf553 104 0 (by decide) (by decide) (by decide) (by decide) (by decide) (by decide) (by decide) (by decide) (by decide) (by decide) (by decide), hf525 104 0 (by decide) (by decide), hf553 2 0 (by decide) (by decide) (by decide) (by decide) (by decide) (by decide) (by decide) (by decide) (by decide) (by decide) (by decide), hf525 2 0 (by decide) (by decide)]; exact hi9) (by rw [hf553 112 0 (by decide) (by decide) (by decide) (by decide) (by decide) (by decide) (by decide) (by decide) (by decide) (by decide) (by decide), hf525 112 0 (by decide) (by decide), hf553 5 0 (by decide) (by decide) (by decide) (by decide) (by decide) (by decide) (by decide) (by decide) (by decide) (by decide) (by decide), hf525 5 0 (by decide) (by decide)]; exact hi10) (by rw [hf553 111 0 (by decide) (by decide) (by decide) (by decide) (by decide) (by decide) (by decide) (by decide) (by decide) (by decide) (by decide), hf525 111 0 (by decide) (by decide), hf553 4 0 (by decide) (by decide) (by decide) (by decide) (by decide) (by decide) (by decide) (by decide) (by decide) (by decide) (by decide), hf525 4 0 (by decide) (by decide)]; exact hi11) (by rw [hf553 114 0 (by decide) (by decide) (by decide) (by decide) (by decide) (by decide) (by decide) (by decide) (by decide) (by decide) (by decide), hf525 114 0 (by decide) (by decide), hf553 6 0 (by decide) (by decide) (by decide) (by decide) (by decide) (by decide) (by decide) (by decide) (by decide) (by decide) (by decide), hf525 6 0 (by decide) (by decide)]; exact hi12) (by omega) (by rw [hf553 122 0 (by decide) (by decide) (by decide) (by decide) (by decide) (by decide) (by decide) (by decide) (by decide) (by decide) (by decide), hf525 122 0 (by decide) (by decide)]; exact hi14) (by (repeat (first | with_reducible assumption | (refine IJ_c (by decide) (by decide) (by decide) ?_) | (refine IJ_take (by omega) (by omega) ?_) | (refine IJ_how (by omega) ?_) | (refine IJ_by (by omega) ?_)))) hU t_q1 t_q12 t_q25 (by omega) (by omega) hG hS (lv_sub hl [0, 1, 2, 3, 4] rfl)
set_option maxHeartbeats 40000000 in
set_option maxRecDepth 100000 in
/-- the law's case 9 -/
theorem law_c9 {p : Program} {e : Env} {s : State} {m : MethodId} {below : List Frame} {meth : Method} {c : Code} (l : Launch) (hl9 : l.stackTraces = false) {b L : Nat} {xs : Nat → Int32} (hLN : L ≤ 3072) (hx : p.tables.exec = Jvm.exec) (hb : c.code = code) (hr : meth.sig.returnType = ret) (hml : c.maxLocals = 7) (hown : s.vm.findClass R_law = some m.cls) (hA : ∀ w ∈ AL, w.before #[Value.ref b] s = true) (hXs : va_X b L xs s s.heap) (hbl : b < s.heap.size) (hlocks : meth.locks = false) {dC : Nat → ClassId} {dI : Nat → Nat → Nat} {dA : Nat → ClassId} {sz : Nat} (hE : en dC dI dA sz s) (hsz : sz = s.heap.size) (hbA : ¬ ty_A sz b) (X : va_W) (q1 q12 q25 : Nat) (n : Nat) (ih : LJ p l e s m below meth c b dC dI dA sz X q1 q12 q25 n) (i : Int32) (Γ : ty_G) (g : gh) (kc ks : Nat) (H : Heap) (locs : List Loc) (ls : Array Slot) (hm : (3073 - i.toInt : Int) < (n + 1 : Nat)) (hi0 : 0 ≤ i.toInt ∧ i.toInt ≤ 3072) (hi1 : g 1 0 = g 33 0 ∧ 0 ≤ g 1 0 ∧ g 1 0 ≤ 6) (hi2 : g 2 0 = g 34 0 ∧ 0 ≤ g 2 0 ∧ g 2 0 ≤ 10) (hi3 : g 3 0 = g 35 0 ∧ 0 ≤ g 3 0 ∧ g 3 0 ≤ 200) (hi4 : 0 ≤ g 5 0 ∧ g 5 0 ≤ 52) (hi5 : 0 ≤ g 4 0 ∧ g 4 0 ≤ i.toInt) (hi6 : 0 ≤ g 6 0 ∧ g 6 0 ≤ 300) (hi7 : 0 ≤ g 7 0 ∧ g 7 0 ≤ g 36 0 ∧ g 36 0 ≤ 9) (hi8 : g 101 0 = g 1 0) (hi9 : g 104 0 = g 2 0) (hi10 : g 112 0 = g 5 0) (hi11 : g 111 0 = g 4 0) (hi12 : g 114 0 = g 6 0) (hi13 : 0 ≤ g 126 0 ∧ g 126 0 ≤ 200) (hi14 : 0 ≤ g 122 0 ∧ g 122 0 ≤ 30) (hIJ : IJ g) (hU : Un Γ) (t_q1 : ty Γ q1 1) (t_q12 : ty Γ q12 30) (t_q25 : ty Γ q25 25) (hkc : kc ≤ 300 + i.toInt.toNat) (hks : ks ≤ 30000 + 28 * i.toInt.toNat) (hG : ty_ok (dC, dI) vwCl Γ (TP dA Γ g) sz X H) (hS : va_S (ty_A sz) s.heap H locs) (hl : lv_has ls 7 [(4, .int i), (3, .ref q25), (2, .ref q12), (1, .ref q1), (0, .ref b)]) (hiL : i.toInt + 6 ≤ (L : Int)) : W p l e room_1 s m #[Value.ref b] below meth c H locs kc ks (lw_Z below #[Value.ref b] s) (F0 m 473 ls []) := by
  refine lv_aload_n hx hb dL_law_473 rfl (lv_at hl 3 rfl) ?_
  refine lv_aload_n hx hb dL_law_474 rfl (lv_at hl 4 rfl) ?_
  refine lv_iload hx hb dL_law_475 (lv_at hl 0 rfl) ?_
  refine ty_iconst hx hb (1) dL_law_477 (by decide) (fun x561 h562 => ?_)
  refine ty_iadd hx hb dL_law_478 (fun x563 h564 => ?_)
  have h565 := lw_ix (k := 1) h562 h564 hi0 hiL hLN (by decide)
  refine va_sld hx hb hXs hbl hbA hS (i := x563) (ty_ix h565.2) dL_law_479 ?_
  refine W.eq (g2 := F0 m 480 ls [.int (xs (i.toInt.toNat + 1)), .ref q1]) (by rw [lw_xs (xs := xs) h565.1 hi0.1]) ?_
  clear h565 h564 h562
  refine lv_topi (fun x566 s567 => ?_)
  refine lv_aload_n hx hb dL_law_480 rfl (lv_at hl 4 rfl) ?_
  refine lv_iload hx hb dL_law_481 (lv_at hl 0 rfl) ?_
  refine ty_iconst hx hb (2) dL_law_483 (by decide) (fun x568 h569 => ?_)
  refine ty_iadd hx hb dL_law_484 (fun x570 h571 => ?_)
  have h572 := lw_ix (k := 2) h569 h571 hi0 hiL hLN (by decide)
  refine va_sld hx hb hXs hbl hbA hS (i := x570) (ty_ix h572.2) dL_law_485 ?_
  refine W.eq (g2 := F0 m 486 ls [.int (xs (i.toInt.toNat + 2)), .int x566, .ref q1]) (by rw [lw_xs (xs := xs) h572.1 hi0.1]) ?_
  clear h572 h571 h569
  refine lv_topi (fun x573 s574 => ?_)
  refine lv_aload_n hx hb dL_law_486 rfl (lv_at hl 4 rfl) ?_
  refine lv_iload hx hb dL_law_487 (lv_at hl 0 rfl) ?_
  refine ty_iconst hx hb (3) dL_law_489 (by decide) (fun x575 h576 => ?_)
  refine ty_iadd hx hb dL_law_490 (fun x577 h578 => ?_)
  have h579 := lw_ix (k := 3) h576 h578 hi0 hiL hLN (by decide)
  refine va_sld hx hb hXs hbl hbA hS (i := x577) (ty_ix h579.2) dL_law_491 ?_
  refine W.eq (g2 := F0 m 492 ls [.int (xs (i.toInt.toNat + 3)), .int x573, .int x566, .ref q1]) (by rw [lw_xs (xs := xs) h579.1 hi0.1]) ?_
  clear h579 h578 h576
  refine lv_topi (fun x580 s581 => ?_)
  refine lv_aload_n hx hb dL_law_492 rfl (lv_at hl 4 rfl) ?_
  refine lv_iload hx hb dL_law_493 (lv_at hl 0 rfl) ?_
  refine ty_iconst hx hb (4) dL_law_495 (by decide) (fun x582 h583 => ?_)
  refine ty_iadd hx hb dL_law_496 (fun x584 h585 => ?_)
  have h586 := lw_ix (k := 4) h583 h585 hi0 hiL hLN (by decide)
  refine va_sld hx hb hXs hbl hbA hS (i := x584) (ty_ix h586.2) dL_law_497 ?_
  refine W.eq (g2 := F0 m 498 ls [.int (xs (i.toInt.toNat + 4)), .int x580, .int x573, .int x566, .ref q1]) (by rw [lw_xs (xs := xs) h586.1 hi0.1]) ?_
  clear h586 h585 h583
  refine lv_topi (fun x587 s588 => ?_)
  refine lv_aload_n hx hb dL_law_498 rfl (lv_at hl 4 rfl) ?_
  refine lv_iload hx hb dL_law_499 (lv_at hl 0 rfl) ?_
  refine ty_iconst hx hb (5) dL_law_501 (by decide) (fun x589 h590 => ?_)
  refine ty_iadd hx hb dL_law_502 (fun x591 h592 => ?_)
  have h593 := lw_ix (k := 5) h590 h592 hi0 hiL hLN (by decide)
  refine va_sld hx hb hXs hbl hbA hS (i := x591) (ty_ix h593.2) dL_law_503 ?_
  refine W.eq (g2 := F0 m 504 ls [.int (xs (i.toInt.toNat + 5)), .int x587, .int x580, .int x573, .int x566, .ref q1]) (by rw [lw_xs (xs := xs) h593.1 hi0.1]) ?_
  clear h593 h592 h590
  refine lv_topi (fun x594 s595 => ?_)
  refine cIB (va_runV (C := RX8) (As := [.int x566, .int x573, .int x580, .int x587, .int x594]) (rest := []) ⟨hx, hb, hml, hown, hA⟩ (k_X8_wish l dC dI dA sz X Γ hU g q1 t_q1 x566 x573 x580 x587 x594   (by first | with_reducible assumption | omega)) ⟨callB_of 5 hA (al_A wd_3_68) rfl rfl rfl (hA _ wd_1_1) (hA _ wd_3_65) (by decide +kernel) ⟨Nat.le_of_ble_eq_true rfl, Nat.le_of_ble_eq_true rfl⟩, hA _ wd_3_66, hA _ wd_3_67⟩ ⟨bl, recv_X8 hE hG t_q1, fun U hU9 hW9 => ⟨rfl, by rw [hU9]; exact hG, hE.go hS hU9 hW9⟩⟩ rfl rfl hl.1 rfl (lv_room (Nat.le_of_ble_eq_true rfl)) dL_law_504 ⟨(Nat.le_trans (show kc + 1 ≤ 300000 by omega) (Nat.le_of_ble_eq_true rfl)), (Nat.le_trans (show ks + 4 ≤ 300000 by omega) (Nat.le_of_ble_eq_true rfl))⟩) hS (fun x598 u596 H locs w597 hG hS => ?_)
  obtain ⟨Γ599, g600⟩ := u596
  dsimp only at w597 hG
  obtain ⟨hx601, hU, eu604⟩ := w597
  rw [eu604] at hG
  have hX605 : ext Γ Γ599 := ext.trans ext.rf hx601
  replace t_q25 : ty Γ599 q25 25 := hx601.one t_q25 (by decide)
  replace t_q12 : ty Γ599 q12 30 := hx601.one t_q12 (by decide)
  replace t_q1 : ty Γ599 q1 1 := hx601.one t_q1 (by decide)
  refine lv_pop hx hb dL_law_507 rfl ?_
  refine lv_aload_n hx hb dL_law_508 rfl (lv_at hl 2 rfl) ?_
  refine lv_aload_n hx hb dL_law_509 rfl (lv_at hl 4 rfl) ?_
  refine lv_iload hx hb dL_law_510 (lv_at hl 0 rfl) ?_
  refine ty_iconst hx hb (1) dL_law_512 (by decide) (fun x606 h607 => ?_)
  refine ty_iadd hx hb dL_law_513 (fun x608 h609 => ?_)
  have h610 := lw_ix (k := 1) h607 h609 hi0 hiL hLN (by decide)
  refine va_sld hx hb hXs hbl hbA hS (i := x608) (ty_ix h610.2) dL_law_514 ?_
  refine W.eq (g2 := F0 m 515 ls [.int (xs (i.toInt.toNat + 1)), .ref q12]) (by rw [lw_xs (xs := xs) h610.1 hi0.1]) ?_
  clear h610 h609 h607
  refine W.eq (g2 := F0 m 515 ls [.int x566, .ref q12]) (by rw [s567]) ?_
  refine lv_aload_n hx hb dL_law_515 rfl (lv_at hl 4 rfl) ?_
  refine lv_iload hx hb dL_law_516 (lv_at hl 0 rfl) ?_
  refine ty_iconst hx hb (2) dL_law_518 (by decide) (fun x611 h612 => ?_)
  refine ty_iadd hx hb dL_law_519 (fun x613 h614 => ?_)
  have h615 := lw_ix (k := 2) h612 h614 hi0 hiL hLN (by decide)
  refine va_sld hx hb hXs hbl hbA hS (i := x613) (ty_ix h615.2) dL_law_520 ?_
  refine W.eq (g2 := F0 m 521 ls [.int (xs (i.toInt.toNat + 2)), .int x566, .ref q12]) (by rw [lw_xs (xs := xs) h615.1 hi0.1]) ?_
  clear h615 h614 h612
  refine W.eq (g2 := F0 m 521 ls [.int x573, .int x566, .ref q12]) (by rw [s574]) ?_
  refine lv_aload_n hx hb dL_law_521 rfl (lv_at hl 4 rfl) ?_
  refine lv_iload hx hb dL_law_522 (lv_at hl 0 rfl) ?_
  refine ty_iconst hx hb (3) dL_law_524 (by decide) (fun x616 h617 => ?_)
  refine ty_iadd hx hb dL_law_525 (fun x618 h619 => ?_)
  have h620 := lw_ix (k := 3) h617 h619 hi0 hiL hLN (by decide)
  refine va_sld hx hb hXs hbl hbA hS (i := x618) (ty_ix h620.2) dL_law_526 ?_
  refine W.eq (g2 := F0 m 527 ls [.int (xs (i.toInt.toNat + 3)), .int x573, .int x566, .ref q12]) (by rw [lw_xs (xs := xs) h620.1 hi0.1]) ?_
  clear h620 h619 h617
  refine W.eq (g2 := F0 m 527 ls [.int x580, .int x573, .int x566, .ref q12]) (by rw [s581]) ?_
  refine lv_aload_n hx hb dL_law_527 rfl (lv_at hl 4 rfl) ?_
  refine lv_iload hx hb dL_law_528 (lv_at hl 0 rfl) ?_
  refine ty_iconst hx hb (4) dL_law_530 (by decide) (fun x621 h622 => ?_)
  refine ty_iadd hx hb dL_law_531 (fun x623 h624 => ?_)
  have h625 := lw_ix (k := 4) h622 h624 hi0 hiL hLN (by decide)
  refine va_sld hx hb hXs hbl hbA hS (i := x623) (ty_ix h625.2) dL_law_532 ?_
  refine W.eq (g2 := F0 m 533 ls [.int (xs (i.toInt.toNat + 4)), .int x580, .int x573, .int x566, .ref q12]) (by rw [lw_xs (xs := xs) h625.1 hi0.1]) ?_
  clear h625 h624 h622
  refine W.eq (g2 := F0 m 533 ls [.int x587, .int x580, .int x573, .int x566, .ref q12]) (by rw [s588]) ?_
  refine lv_aload_n hx hb dL_law_533 rfl (lv_at hl 4 rfl) ?_
  refine lv_iload hx hb dL_law_534 (lv_at hl 0 rfl) ?_
  refine ty_iconst hx hb (5) dL_law_536 (by decide) (fun x626 h627 => ?_)
  refine ty_iadd hx hb dL_law_537 (fun x628 h629 => ?_)
  have h630 := lw_ix (k := 5) h627 h629 hi0 hiL hLN (by decide)
  refine va_sld hx hb hXs hbl hbA hS (i := x628) (ty_ix h630.2) dL_law_538 ?_
  refine W.eq (g2 := F0 m 539 ls [.int (xs (i.toInt.toNat + 5)), .int x587, .int x580, .int x573, .int x566, .ref q12]) (by rw [lw_xs (xs := xs) h630.1 hi0.1]) ?_
  clear h630 h629 h627
  refine W.eq (g2 := F0 m 539 ls [.int x594, .int x587, .int x580, .int x573, .int x566, .ref q12]) (by rw [s595]) ?_
  refine cI (va_runV (C := RX9) (As := [.int x566, .int x573, .int x580, .int x587, .int x594]) (rest := []) ⟨hx, hb, hml, hown, hA⟩ (k_X9_wish l dC dI dA sz X Γ599 hU g q12 t_q12 x566 x573 x580 x587 x594   (by first | with_reducible assumption | omega)) ⟨callB_of 5 hA (al_A wd_5_132) rfl rfl rfl (hA _ wd_1_7) (hA _ wd_5_129) (by decide +kernel) ⟨Nat.le_of_ble_eq_true rfl, Nat.le_of_ble_eq_true rfl⟩, hA _ wd_5_130, hA _ wd_5_131⟩ ⟨bl, recv_X9 hE hG t_q12, fun U hU9 hW9 => ⟨rfl, by rw [hU9]; exact hG, hE.go hS hU9 hW9⟩⟩ rfl rfl hl.1 rfl (lv_room (Nat.le_of_ble_eq_true rfl)) dL_law_539 ⟨(Nat.le_trans (show (kc + 1) + 0 ≤ 300000 by omega) (Nat.le_of_ble_eq_true rfl)), (Nat.le_trans (show (ks + 4) + 0 ≤ 300000 by omega) (Nat.le_of_ble_eq_true rfl))⟩) hS (fun x633 u631 H locs w632 hG hS => ?_)
  have hf634 := w632
  have hj635 : IJ u631 := IJ_cg (hf634 126 0 (by decide) (by decide)) (fun j => hf634 132 j (by decide) (by decide)) (fun j => hf634 134 j (by decide) (by decide)) (by (repeat (first | with_reducible assumption | (refine IJ_c (by decide) (by decide) (by decide) ?_) | (refine IJ_take (by omega) (by omega) ?_) | (refine IJ_how (by omega) ?_) | (refine IJ_by (by omega) ?_))))
  refine lv_pop hx hb dL_law_542 rfl ?_
  refine lv_goto (tgt := 1047) hx hb dL_law_543 (by decide) ?_
  obtain ⟨x636, h637⟩ : ∃ y : Int32, y = i + Int32.ofInt (6) := ⟨_, rfl⟩
  try have h638 : x636.toInt = i.toInt + (6) := ty_inc h637 (by decide) (by omega) (by omega)
  refine lv_iinc (v := x636) (lv' := [(4, .int x636), (3, .ref q25), (2, .ref q12), (1, .ref q1), (0, .ref b)]) hx hb dL_law_1047 hl (k := 0) rfl h637.symm (by decide) rfl (fun ls hl => ?_)
  refine lv_goto (tgt := 23) hx hb dL_law_1050 (by decide) ?_
  have hk639 : u631 4 0 = g 4 0 := hf634 4 0 (by decide) (by decide)
  exact ih x636 Γ599 u631 ((kc + 1)) ((ks + 4)) _ _ ls (by omega) (by omega) (by rw [hf634 1 0 (by decide) (by decide), hf634 33 0 (by decide) (by decide)]; exact hi1) (by rw [hf634 2 0 (by decide) (by decide), hf634 34 0 (by decide) (by decide)]; exact hi2) (by rw [hf634 3 0 (by decide) (by decide), hf634 35 0 (by decide) (by decide)]; exact hi3) (by rw [hf634 5 0 (by decide) (by decide)]; exact hi4) (by omega) (by rw [hf634 6 0 (by decide) (by decide)]; exact hi6) (by rw [hf634 7 0 (by decide) (by decide), hf634 36 0 (by decide) (by decide)]; exact hi7) (by rw [hf634 101 0 (by decide) (by decide), hf634 1 0 (by decide) (by decide)]; exact hi8) (by rw [hf634 104 0 (by decide) (by decide), hf634 2 0 (by decide) (by decide)]; exact hi9) (by rw [hf634 112 0 (by decide) (by decide), hf634 5 0 (by decide) (by decide)]; exact hi10) (by rw [hf634 111 0 (by decide) (by decide), hf634 4 0 (by decide) (by decide)]; exact hi11) (by rw [hf634 114 0 (by decide) (by decide), hf634 6 0 (by decide) (by decide)]; exact hi12) (by rw [hf634 126 0 (by decide) (by decide)]; exact hi13) (by rw [hf634 122 0 (by decide) (by decide)]; exact hi14) (by (repeat (first | with_reducible assumption | (refine IJ_c (by decide) (by decide) (by decide) ?_) | (refine IJ_take (by omega) (by omega) ?_) | (refine IJ_how (by omega) ?_) | (refine IJ_by (by omega) ?_)))) hU t_q1 t_q12 t_q25 (by omega) (by omega) hG hS (lv_sub hl [0, 1, 2, 3, 4] rfl)
set_option maxHeartbeats 40000000 in
set_option maxRecDepth 100000 in
/-- the law's case 10 -/
theorem law_c10 {p : Program} {e : Env} {s : State} {m : MethodId} {below : List Frame} {meth : Method} {c : Code} (l : Launch) (hl9 : l.stackTraces = false) {b L : Nat} {xs : Nat → Int32} (hLN : L ≤ 3072) (hx : p.tables.exec = Jvm.exec) (hb : c.code = code) (hr : meth.sig.returnType = ret) (hml : c.maxLocals = 7) (hown : s.vm.findClass R_law = some m.cls) (hA : ∀ w ∈ AL, w.before #[Value.ref b] s = true) (hXs : va_X b L xs s s.heap) (hbl : b < s.heap.size) (hlocks : meth.locks = false) {dC : Nat → ClassId} {dI : Nat → Nat → Nat} {dA : Nat → ClassId} {sz : Nat} (hE : en dC dI dA sz s) (hsz : sz = s.heap.size) (hbA : ¬ ty_A sz b) (X : va_W) (q1 q12 q25 : Nat) (n : Nat) (ih : LJ p l e s m below meth c b dC dI dA sz X q1 q12 q25 n) (i : Int32) (Γ : ty_G) (g : gh) (kc ks : Nat) (H : Heap) (locs : List Loc) (ls : Array Slot) (hm : (3073 - i.toInt : Int) < (n + 1 : Nat)) (hi0 : 0 ≤ i.toInt ∧ i.toInt ≤ 3072) (hi1 : g 1 0 = g 33 0 ∧ 0 ≤ g 1 0 ∧ g 1 0 ≤ 6) (hi2 : g 2 0 = g 34 0 ∧ 0 ≤ g 2 0 ∧ g 2 0 ≤ 10) (hi3 : g 3 0 = g 35 0 ∧ 0 ≤ g 3 0 ∧ g 3 0 ≤ 200) (hi4 : 0 ≤ g 5 0 ∧ g 5 0 ≤ 52) (hi5 : 0 ≤ g 4 0 ∧ g 4 0 ≤ i.toInt) (hi6 : 0 ≤ g 6 0 ∧ g 6 0 ≤ 300) (hi7 : 0 ≤ g 7 0 ∧ g 7 0 ≤ g 36 0 ∧ g 36 0 ≤ 9) (hi8 : g 101 0 = g 1 0) (hi9 : g 104 0 = g 2 0) (hi10 : g 112 0 = g 5 0) (hi11 : g 111 0 = g 4 0) (hi12 : g 114 0 = g 6 0) (hi13 : 0 ≤ g 126 0 ∧ g 126 0 ≤ 200) (hi14 : 0 ≤ g 122 0 ∧ g 122 0 ≤ 30) (hIJ : IJ g) (hU : Un Γ) (t_q1 : ty Γ q1 1) (t_q12 : ty Γ q12 30) (t_q25 : ty Γ q25 25) (hkc : kc ≤ 300 + i.toInt.toNat) (hks : ks ≤ 30000 + 28 * i.toInt.toNat) (hG : ty_ok (dC, dI) vwCl Γ (TP dA Γ g) sz X H) (hS : va_S (ty_A sz) s.heap H locs) (hl : lv_has ls 7 [(4, .int i), (3, .ref q25), (2, .ref q12), (1, .ref q1), (0, .ref b)]) (hiL : i.toInt + 6 ≤ (L : Int)) : W p l e room_1 s m #[Value.ref b] below meth c H locs kc ks (lw_Z below #[Value.ref b] s) (F0 m 546 ls []) := by
  refine lv_aload_n hx hb dL_law_546 rfl (lv_at hl 3 rfl) ?_
  refine lv_aload_n hx hb dL_law_547 rfl (lv_at hl 4 rfl) ?_
  refine lv_iload hx hb dL_law_548 (lv_at hl 0 rfl) ?_
  refine ty_iconst hx hb (1) dL_law_550 (by decide) (fun x640 h641 => ?_)
  refine ty_iadd hx hb dL_law_551 (fun x642 h643 => ?_)
  have h644 := lw_ix (k := 1) h641 h643 hi0 hiL hLN (by decide)
  refine va_sld hx hb hXs hbl hbA hS (i := x642) (ty_ix h644.2) dL_law_552 ?_
  refine W.eq (g2 := F0 m 553 ls [.int (xs (i.toInt.toNat + 1)), .ref q1]) (by rw [lw_xs (xs := xs) h644.1 hi0.1]) ?_
  clear h644 h643 h641
  refine lv_topi (fun x645 s646 => ?_)
  refine lv_aload_n hx hb dL_law_553 rfl (lv_at hl 4 rfl) ?_
  refine lv_iload hx hb dL_law_554 (lv_at hl 0 rfl) ?_
  refine ty_iconst hx hb (2) dL_law_556 (by decide) (fun x647 h648 => ?_)
  refine ty_iadd hx hb dL_law_557 (fun x649 h650 => ?_)
  have h651 := lw_ix (k := 2) h648 h650 hi0 hiL hLN (by decide)
  refine va_sld hx hb hXs hbl hbA hS (i := x649) (ty_ix h651.2) dL_law_558 ?_
  refine W.eq (g2 := F0 m 559 ls [.int (xs (i.toInt.toNat + 2)), .int x645, .ref q1]) (by rw [lw_xs (xs := xs) h651.1 hi0.1]) ?_
  clear h651 h650 h648
  refine lv_topi (fun x652 s653 => ?_)
  refine lv_aload_n hx hb dL_law_559 rfl (lv_at hl 4 rfl) ?_
  refine lv_iload hx hb dL_law_560 (lv_at hl 0 rfl) ?_
  refine ty_iconst hx hb (3) dL_law_562 (by decide) (fun x654 h655 => ?_)
  refine ty_iadd hx hb dL_law_563 (fun x656 h657 => ?_)
  have h658 := lw_ix (k := 3) h655 h657 hi0 hiL hLN (by decide)
  refine va_sld hx hb hXs hbl hbA hS (i := x656) (ty_ix h658.2) dL_law_564 ?_
  refine W.eq (g2 := F0 m 565 ls [.int (xs (i.toInt.toNat + 3)), .int x652, .int x645, .ref q1]) (by rw [lw_xs (xs := xs) h658.1 hi0.1]) ?_
  clear h658 h657 h655
  refine lv_topi (fun x659 s660 => ?_)
  refine lv_aload_n hx hb dL_law_565 rfl (lv_at hl 4 rfl) ?_
  refine lv_iload hx hb dL_law_566 (lv_at hl 0 rfl) ?_
  refine ty_iconst hx hb (4) dL_law_568 (by decide) (fun x661 h662 => ?_)
  refine ty_iadd hx hb dL_law_569 (fun x663 h664 => ?_)
  have h665 := lw_ix (k := 4) h662 h664 hi0 hiL hLN (by decide)
  refine va_sld hx hb hXs hbl hbA hS (i := x663) (ty_ix h665.2) dL_law_570 ?_
  refine W.eq (g2 := F0 m 571 ls [.int (xs (i.toInt.toNat + 4)), .int x659, .int x652, .int x645, .ref q1]) (by rw [lw_xs (xs := xs) h665.1 hi0.1]) ?_
  clear h665 h664 h662
  refine lv_topi (fun x666 s667 => ?_)
  refine lv_aload_n hx hb dL_law_571 rfl (lv_at hl 4 rfl) ?_
  refine lv_iload hx hb dL_law_572 (lv_at hl 0 rfl) ?_
  refine ty_iconst hx hb (5) dL_law_574 (by decide) (fun x668 h669 => ?_)
  refine ty_iadd hx hb dL_law_575 (fun x670 h671 => ?_)
  have h672 := lw_ix (k := 5) h669 h671 hi0 hiL hLN (by decide)
  refine va_sld hx hb hXs hbl hbA hS (i := x670) (ty_ix h672.2) dL_law_576 ?_
  refine W.eq (g2 := F0 m 577 ls [.int (xs (i.toInt.toNat + 5)), .int x666, .int x659, .int x652, .int x645, .ref q1]) (by rw [lw_xs (xs := xs) h672.1 hi0.1]) ?_
  clear h672 h671 h669
  refine lv_topi (fun x673 s674 => ?_)
  refine cIB (va_runV (C := RX8) (As := [.int x645, .int x652, .int x659, .int x666, .int x673]) (rest := []) ⟨hx, hb, hml, hown, hA⟩ (k_X8_rushWish l dC dI dA sz X Γ hU g q1 t_q1 x645 x652 x659 x666 x673   (by first | with_reducible assumption | omega)) ⟨callB_of 5 hA (al_A wd_3_106) rfl rfl rfl (hA _ wd_1_1) (hA _ wd_3_103) (by decide +kernel) ⟨Nat.le_of_ble_eq_true rfl, Nat.le_of_ble_eq_true rfl⟩, hA _ wd_3_104, hA _ wd_3_105⟩ ⟨bl, recv_X8 hE hG t_q1, fun U hU9 hW9 => ⟨rfl, by rw [hU9]; exact hG, hE.go hS hU9 hW9⟩⟩ rfl rfl hl.1 rfl (lv_room (Nat.le_of_ble_eq_true rfl)) dL_law_577 ⟨(Nat.le_trans (show kc + 1 ≤ 300000 by omega) (Nat.le_of_ble_eq_true rfl)), (Nat.le_trans (show ks + 4 ≤ 300000 by omega) (Nat.le_of_ble_eq_true rfl))⟩) hS (fun x677 u675 H locs w676 hG hS => ?_)
  obtain ⟨Γ678, g679⟩ := u675
  dsimp only at w676 hG
  obtain ⟨hx680, hU, eu683⟩ := w676
  rw [eu683] at hG
  have hX684 : ext Γ Γ678 := ext.trans ext.rf hx680
  replace t_q25 : ty Γ678 q25 25 := hx680.one t_q25 (by decide)
  replace t_q12 : ty Γ678 q12 30 := hx680.one t_q12 (by decide)
  replace t_q1 : ty Γ678 q1 1 := hx680.one t_q1 (by decide)
  refine lv_pop hx hb dL_law_580 rfl ?_
  refine lv_aload_n hx hb dL_law_581 rfl (lv_at hl 2 rfl) ?_
  refine lv_aload_n hx hb dL_law_582 rfl (lv_at hl 4 rfl) ?_
  refine lv_iload hx hb dL_law_583 (lv_at hl 0 rfl) ?_
  refine ty_iconst hx hb (1) dL_law_585 (by decide) (fun x685 h686 => ?_)
  refine ty_iadd hx hb dL_law_586 (fun x687 h688 => ?_)
  have h689 := lw_ix (k := 1) h686 h688 hi0 hiL hLN (by decide)
  refine va_sld hx hb hXs hbl hbA hS (i := x687) (ty_ix h689.2) dL_law_587 ?_
  refine W.eq (g2 := F0 m 588 ls [.int (xs (i.toInt.toNat + 1)), .ref q12]) (by rw [lw_xs (xs := xs) h689.1 hi0.1]) ?_
  clear h689 h688 h686
  refine W.eq (g2 := F0 m 588 ls [.int x645, .ref q12]) (by rw [s646]) ?_
  refine lv_aload_n hx hb dL_law_588 rfl (lv_at hl 4 rfl) ?_
  refine lv_iload hx hb dL_law_589 (lv_at hl 0 rfl) ?_
  refine ty_iconst hx hb (2) dL_law_591 (by decide) (fun x690 h691 => ?_)
  refine ty_iadd hx hb dL_law_592 (fun x692 h693 => ?_)
  have h694 := lw_ix (k := 2) h691 h693 hi0 hiL hLN (by decide)
  refine va_sld hx hb hXs hbl hbA hS (i := x692) (ty_ix h694.2) dL_law_593 ?_
  refine W.eq (g2 := F0 m 594 ls [.int (xs (i.toInt.toNat + 2)), .int x645, .ref q12]) (by rw [lw_xs (xs := xs) h694.1 hi0.1]) ?_
  clear h694 h693 h691
  refine W.eq (g2 := F0 m 594 ls [.int x652, .int x645, .ref q12]) (by rw [s653]) ?_
  refine lv_aload_n hx hb dL_law_594 rfl (lv_at hl 4 rfl) ?_
  refine lv_iload hx hb dL_law_595 (lv_at hl 0 rfl) ?_
  refine ty_iconst hx hb (3) dL_law_597 (by decide) (fun x695 h696 => ?_)
  refine ty_iadd hx hb dL_law_598 (fun x697 h698 => ?_)
  have h699 := lw_ix (k := 3) h696 h698 hi0 hiL hLN (by decide)
  refine va_sld hx hb hXs hbl hbA hS (i := x697) (ty_ix h699.2) dL_law_599 ?_
  refine W.eq (g2 := F0 m 600 ls [.int (xs (i.toInt.toNat + 3)), .int x652, .int x645, .ref q12]) (by rw [lw_xs (xs := xs) h699.1 hi0.1]) ?_
  clear h699 h698 h696
  refine W.eq (g2 := F0 m 600 ls [.int x659, .int x652, .int x645, .ref q12]) (by rw [s660]) ?_
  refine lv_aload_n hx hb dL_law_600 rfl (lv_at hl 4 rfl) ?_
  refine lv_iload hx hb dL_law_601 (lv_at hl 0 rfl) ?_
  refine ty_iconst hx hb (4) dL_law_603 (by decide) (fun x700 h701 => ?_)
  refine ty_iadd hx hb dL_law_604 (fun x702 h703 => ?_)
  have h704 := lw_ix (k := 4) h701 h703 hi0 hiL hLN (by decide)
  refine va_sld hx hb hXs hbl hbA hS (i := x702) (ty_ix h704.2) dL_law_605 ?_
  refine W.eq (g2 := F0 m 606 ls [.int (xs (i.toInt.toNat + 4)), .int x659, .int x652, .int x645, .ref q12]) (by rw [lw_xs (xs := xs) h704.1 hi0.1]) ?_
  clear h704 h703 h701
  refine W.eq (g2 := F0 m 606 ls [.int x666, .int x659, .int x652, .int x645, .ref q12]) (by rw [s667]) ?_
  refine lv_aload_n hx hb dL_law_606 rfl (lv_at hl 4 rfl) ?_
  refine lv_iload hx hb dL_law_607 (lv_at hl 0 rfl) ?_
  refine ty_iconst hx hb (5) dL_law_609 (by decide) (fun x705 h706 => ?_)
  refine ty_iadd hx hb dL_law_610 (fun x707 h708 => ?_)
  have h709 := lw_ix (k := 5) h706 h708 hi0 hiL hLN (by decide)
  refine va_sld hx hb hXs hbl hbA hS (i := x707) (ty_ix h709.2) dL_law_611 ?_
  refine W.eq (g2 := F0 m 612 ls [.int (xs (i.toInt.toNat + 5)), .int x666, .int x659, .int x652, .int x645, .ref q12]) (by rw [lw_xs (xs := xs) h709.1 hi0.1]) ?_
  clear h709 h708 h706
  refine W.eq (g2 := F0 m 612 ls [.int x673, .int x666, .int x659, .int x652, .int x645, .ref q12]) (by rw [s674]) ?_
  refine cI (va_runV (C := RX9) (As := [.int x645, .int x652, .int x659, .int x666, .int x673]) (rest := []) ⟨hx, hb, hml, hown, hA⟩ (k_X9_rushWish l dC dI dA sz X Γ678 hU g q12 t_q12 x645 x652 x659 x666 x673   (by first | with_reducible assumption | omega)) ⟨callB_of 5 hA (al_A wd_5_144) rfl rfl rfl (hA _ wd_1_7) (hA _ wd_5_141) (by decide +kernel) ⟨Nat.le_of_ble_eq_true rfl, Nat.le_of_ble_eq_true rfl⟩, hA _ wd_5_142, hA _ wd_5_143⟩ ⟨bl, recv_X9 hE hG t_q12, fun U hU9 hW9 => ⟨rfl, by rw [hU9]; exact hG, hE.go hS hU9 hW9⟩⟩ rfl rfl hl.1 rfl (lv_room (Nat.le_of_ble_eq_true rfl)) dL_law_612 ⟨(Nat.le_trans (show (kc + 1) + 0 ≤ 300000 by omega) (Nat.le_of_ble_eq_true rfl)), (Nat.le_trans (show (ks + 4) + 0 ≤ 300000 by omega) (Nat.le_of_ble_eq_true rfl))⟩) hS (fun x712 u710 H locs w711 hG hS => ?_)
  have hf713 := w711
  have hj714 : IJ u710 := IJ_cg (hf713 126 0 (by decide) (by decide)) (fun j => hf713 132 j (by decide) (by decide)) (fun j => hf713 134 j (by decide) (by decide)) (by (repeat (first | with_reducible assumption | (refine IJ_c (by decide) (by decide) (by decide) ?_) | (refine IJ_take (by omega) (by omega) ?_) | (refine IJ_how (by omega) ?_) | (refine IJ_by (by omega) ?_))))
  refine lv_pop hx hb dL_law_615 rfl ?_
  refine lv_goto (tgt := 1047) hx hb dL_law_616 (by decide) ?_
  obtain ⟨x715, h716⟩ : ∃ y : Int32, y = i + Int32.ofInt (6) := ⟨_, rfl⟩
  try have h717 : x715.toInt = i.toInt + (6) := ty_inc h716 (by decide) (by omega) (by omega)
  refine lv_iinc (v := x715) (lv' := [(4, .int x715), (3, .ref q25), (2, .ref q12), (1, .ref q1), (0, .ref b)]) hx hb dL_law_1047 hl (k := 0) rfl h716.symm (by decide) rfl (fun ls hl => ?_)
  refine lv_goto (tgt := 23) hx hb dL_law_1050 (by decide) ?_
  have hk718 : u710 4 0 = g 4 0 := hf713 4 0 (by decide) (by decide)
  exact ih x715 Γ678 u710 ((kc + 1)) ((ks + 4)) _ _ ls (by omega) (by omega) (by rw [hf713 1 0 (by decide) (by decide), hf713 33 0 (by decide) (by decide)]; exact hi1) (by rw [hf713 2 0 (by decide) (by decide), hf713 34 0 (by decide) (by decide)]; exact hi2) (by rw [hf713 3 0 (by decide) (by decide), hf713 35 0 (by decide) (by decide)]; exact hi3) (by rw [hf713 5 0 (by decide) (by decide)]; exact hi4) (by omega) (by rw [hf713 6 0 (by decide) (by decide)]; exact hi6) (by rw [hf713 7 0 (by decide) (by decide), hf713 36 0 (by decide) (by decide)]; exact hi7) (by rw [hf713 101 0 (by decide) (by decide), hf713 1 0 (by decide) (by decide)]; exact hi8) (by rw [hf713 104 0 (by decide) (by decide), hf713 2 0 (by decide) (by decide)]; exact hi9) (by rw [hf713 112 0 (by decide) (by decide), hf713 5 0 (by decide) (by decide)]; exact hi10) (by rw [hf713 111 0 (by decide) (by decide), hf713 4 0 (by decide) (by decide)]; exact hi11) (by rw [hf713 114 0 (by decide) (by decide), hf713 6 0 (by decide) (by decide)]; exact hi12) (by rw [hf713 126 0 (by decide) (by decide)]; exact hi13) (by rw [hf713 122 0 (by decide) (by decide)]; exact hi14) (by (repeat (first | with_reducible assumption | (refine IJ_c (by decide) (by decide) (by decide) ?_) | (refine IJ_take (by omega) (by omega) ?_) | (refine IJ_how (by omega) ?_) | (refine IJ_by (by omega) ?_)))) hU t_q1 t_q12 t_q25 (by omega) (by omega) hG hS (lv_sub hl [0, 1, 2, 3, 4] rfl)
set_option maxHeartbeats 40000000 in
set_option maxRecDepth 100000 in
/-- the law's case 11 -/
theorem law_c11 {p : Program} {e : Env} {s : State} {m : MethodId} {below : List Frame} {meth : Method} {c : Code} (l : Launch) (hl9 : l.stackTraces = false) {b L : Nat} {xs : Nat → Int32} (hLN : L ≤ 3072) (hx : p.tables.exec = Jvm.exec) (hb : c.code = code) (hr : meth.sig.returnType = ret) (hml : c.maxLocals = 7) (hown : s.vm.findClass R_law = some m.cls) (hA : ∀ w ∈ AL, w.before #[Value.ref b] s = true) (hXs : va_X b L xs s s.heap) (hbl : b < s.heap.size) (hlocks : meth.locks = false) {dC : Nat → ClassId} {dI : Nat → Nat → Nat} {dA : Nat → ClassId} {sz : Nat} (hE : en dC dI dA sz s) (hsz : sz = s.heap.size) (hbA : ¬ ty_A sz b) (X : va_W) (q1 q12 q25 : Nat) (n : Nat) (ih : LJ p l e s m below meth c b dC dI dA sz X q1 q12 q25 n) (i : Int32) (Γ : ty_G) (g : gh) (kc ks : Nat) (H : Heap) (locs : List Loc) (ls : Array Slot) (hm : (3073 - i.toInt : Int) < (n + 1 : Nat)) (hi0 : 0 ≤ i.toInt ∧ i.toInt ≤ 3072) (hi1 : g 1 0 = g 33 0 ∧ 0 ≤ g 1 0 ∧ g 1 0 ≤ 6) (hi2 : g 2 0 = g 34 0 ∧ 0 ≤ g 2 0 ∧ g 2 0 ≤ 10) (hi3 : g 3 0 = g 35 0 ∧ 0 ≤ g 3 0 ∧ g 3 0 ≤ 200) (hi4 : 0 ≤ g 5 0 ∧ g 5 0 ≤ 52) (hi5 : 0 ≤ g 4 0 ∧ g 4 0 ≤ i.toInt) (hi6 : 0 ≤ g 6 0 ∧ g 6 0 ≤ 300) (hi7 : 0 ≤ g 7 0 ∧ g 7 0 ≤ g 36 0 ∧ g 36 0 ≤ 9) (hi8 : g 101 0 = g 1 0) (hi9 : g 104 0 = g 2 0) (hi10 : g 112 0 = g 5 0) (hi11 : g 111 0 = g 4 0) (hi12 : g 114 0 = g 6 0) (hi13 : 0 ≤ g 126 0 ∧ g 126 0 ≤ 200) (hi14 : 0 ≤ g 122 0 ∧ g 122 0 ≤ 30) (hIJ : IJ g) (hU : Un Γ) (t_q1 : ty Γ q1 1) (t_q12 : ty Γ q12 30) (t_q25 : ty Γ q25 25) (hkc : kc ≤ 300 + i.toInt.toNat) (hks : ks ≤ 30000 + 28 * i.toInt.toNat) (hG : ty_ok (dC, dI) vwCl Γ (TP dA Γ g) sz X H) (hS : va_S (ty_A sz) s.heap H locs) (hl : lv_has ls 7 [(4, .int i), (3, .ref q25), (2, .ref q12), (1, .ref q1), (0, .ref b)]) (hiL : i.toInt + 6 ≤ (L : Int)) : W p l e room_1 s m #[Value.ref b] below meth c H locs kc ks (lw_Z below #[Value.ref b] s) (F0 m 619 ls []) := by
  refine lv_aload_n hx hb dL_law_619 rfl (lv_at hl 3 rfl) ?_
  refine lv_aload_n hx hb dL_law_620 rfl (lv_at hl 4 rfl) ?_
  refine lv_iload hx hb dL_law_621 (lv_at hl 0 rfl) ?_
  refine ty_iconst hx hb (1) dL_law_623 (by decide) (fun x719 h720 => ?_)
  refine ty_iadd hx hb dL_law_624 (fun x721 h722 => ?_)
  have h723 := lw_ix (k := 1) h720 h722 hi0 hiL hLN (by decide)
  refine va_sld hx hb hXs hbl hbA hS (i := x721) (ty_ix h723.2) dL_law_625 ?_
  refine W.eq (g2 := F0 m 626 ls [.int (xs (i.toInt.toNat + 1)), .ref q1]) (by rw [lw_xs (xs := xs) h723.1 hi0.1]) ?_
  clear h723 h722 h720
  refine lv_topi (fun x724 s725 => ?_)
  refine cI (va_runV (C := RX8) (As := [.int x724]) (rest := []) ⟨hx, hb, hml, hown, hA⟩ (k_X8_rings l dC dI dA sz X Γ hU g q1 t_q1 x724   (by first | with_reducible assumption | omega) (by first | with_reducible assumption | omega)) ⟨callB_of 1 hA (al_A wd_3_110) rfl rfl rfl (hA _ wd_1_1) (hA _ wd_3_107) (by decide +kernel) ⟨Nat.le_of_ble_eq_true rfl, Nat.le_of_ble_eq_true rfl⟩, hA _ wd_3_108, hA _ wd_3_109⟩ ⟨bl, recv_X8 hE hG t_q1, fun U hU9 hW9 => ⟨rfl, by rw [hU9]; exact hG, hE.go hS hU9 hW9⟩⟩ rfl rfl hl.1 rfl (lv_room (Nat.le_of_ble_eq_true rfl)) dL_law_626 ⟨(Nat.le_trans (show kc + 0 ≤ 300000 by omega) (Nat.le_of_ble_eq_true rfl)), (Nat.le_trans (show ks + 0 ≤ 300000 by omega) (Nat.le_of_ble_eq_true rfl))⟩) hS (fun x728 u726 H locs w727 hG hS => ?_)
  obtain ⟨hf729, w727⟩ := w727
  have hj730 : IJ u726 := IJ_cg (hf729 126 0 (by decide) (by decide) (by decide)) (fun j => hf729 132 j (by decide) (by decide) (by decide)) (fun j => hf729 134 j (by decide) (by decide) (by decide)) (by (repeat (first | with_reducible assumption | (refine IJ_c (by decide) (by decide) (by decide) ?_) | (refine IJ_take (by omega) (by omega) ?_) | (refine IJ_how (by omega) ?_) | (refine IJ_by (by omega) ?_))))
  refine lv_pop hx hb dL_law_629 rfl ?_
  refine lv_aload_n hx hb dL_law_630 rfl (lv_at hl 2 rfl) ?_
  refine lv_aload_n hx hb dL_law_631 rfl (lv_at hl 4 rfl) ?_
  refine lv_iload hx hb dL_law_632 (lv_at hl 0 rfl) ?_
  refine ty_iconst hx hb (1) dL_law_634 (by decide) (fun x731 h732 => ?_)
  refine ty_iadd hx hb dL_law_635 (fun x733 h734 => ?_)
  have h735 := lw_ix (k := 1) h732 h734 hi0 hiL hLN (by decide)
  refine va_sld hx hb hXs hbl hbA hS (i := x733) (ty_ix h735.2) dL_law_636 ?_
  refine W.eq (g2 := F0 m 637 ls [.int (xs (i.toInt.toNat + 1)), .ref q12]) (by rw [lw_xs (xs := xs) h735.1 hi0.1]) ?_
  clear h735 h734 h732
  refine W.eq (g2 := F0 m 637 ls [.int x724, .ref q12]) (by rw [s725]) ?_
  have hk736 : u726 126 0 = g 126 0 := hf729 126 0 (by decide) (by decide) (by decide)
  refine cI (va_runV (C := RX9) (As := [.int x724]) (rest := []) ⟨hx, hb, hml, hown, hA⟩ (k_X9_rings l dC dI dA sz X Γ hU u726 q12 t_q12 x724   (by first | with_reducible assumption | omega) (by (repeat (first | with_reducible assumption | (refine IJ_c (by decide) (by decide) (by decide) ?_) | (refine IJ_take (by omega) (by omega) ?_) | (refine IJ_how (by omega) ?_) | (refine IJ_by (by omega) ?_))))) ⟨callB_of 1 hA (al_A wd_5_148) rfl rfl rfl (hA _ wd_1_7) (hA _ wd_5_145) (by decide +kernel) ⟨Nat.le_of_ble_eq_true rfl, Nat.le_of_ble_eq_true rfl⟩, hA _ wd_5_146, hA _ wd_5_147⟩ ⟨bl, recv_X9 hE hG t_q12, fun U hU9 hW9 => ⟨rfl, by rw [hU9]; exact hG, hE.go hS hU9 hW9⟩⟩ rfl rfl hl.1 rfl (lv_room (Nat.le_of_ble_eq_true rfl)) dL_law_637 ⟨(Nat.le_trans (show kc + 0 ≤ 300000 by omega) (Nat.le_of_ble_eq_true rfl)), (Nat.le_trans (show ks + 0 ≤ 300000 by omega) (Nat.le_of_ble_eq_true rfl))⟩) hS (fun x739 u737 H locs w738 hG hS => ?_)
  obtain ⟨hf741, hq740⟩ := w738
  refine lv_pop hx hb dL_law_640 rfl ?_
  refine lv_goto (tgt := 1047) hx hb dL_law_641 (by decide) ?_
  obtain ⟨x742, h743⟩ : ∃ y : Int32, y = i + Int32.ofInt (6) := ⟨_, rfl⟩
  try have h744 : x742.toInt = i.toInt + (6) := ty_inc h743 (by decide) (by omega) (by omega)
  refine lv_iinc (v := x742) (lv' := [(4, .int x742), (3, .ref q25), (2, .ref q12), (1, .ref q1), (0, .ref b)]) hx hb dL_law_1047 hl (k := 0) rfl h743.symm (by decide) rfl (fun ls hl => ?_)
  refine lv_goto (tgt := 23) hx hb dL_law_1050 (by decide) ?_
  have hk745 : u737 4 0 = u726 4 0 := hf741 4 0 (by decide) (by decide) (by decide) (by decide) (by decide) (by decide) (by decide) (by decide) (by decide) (by decide) (by decide) (by decide)
  have hk746 : u726 4 0 = g 4 0 := hf729 4 0 (by decide) (by decide) (by decide)
  have hk747 : u737 7 0 = u726 7 0 := hf741 7 0 (by decide) (by decide) (by decide) (by decide) (by decide) (by decide) (by decide) (by decide) (by decide) (by decide) (by decide) (by decide)
  have hk748 : u737 36 0 = u726 36 0 := hf741 36 0 (by decide) (by decide) (by decide) (by decide) (by decide) (by decide) (by decide) (by decide) (by decide) (by decide) (by decide) (by decide)
  exact ih x742 Γ u737 (kc) (ks) _ _ ls (by omega) (by omega) (by rw [hf741 1 0 (by decide) (by decide) (by decide) (by decide) (by decide) (by decide) (by decide) (by decide) (by decide) (by decide) (by decide) (by decide), hf729 1 0 (by decide) (by decide) (by decide), hf741 33 0 (by decide) (by decide) (by decide) (by decide) (by decide) (by decide) (by decide) (by decide) (by decide) (by decide) (by decide) (by decide), hf729 33 0 (by decide) (by decide) (by decide)]; exact hi1) (by rw [hf741 2 0 (by decide) (by decide) (by decide) (by decide) (by decide) (by decide) (by decide) (by decide) (by decide) (by decide) (by decide) (by decide), hf729 2 0 (by decide) (by decide) (by decide), hf741 34 0 (by decide) (by decide) (by decide) (by decide) (by decide) (by decide) (by decide) (by decide) (by decide) (by decide) (by decide) (by decide), hf729 34 0 (by decide) (by decide) (by decide)]; exact hi2) (by rw [hf741 3 0 (by decide) (by decide) (by decide) (by decide) (by decide) (by decide) (by decide) (by decide) (by decide) (by decide) (by decide) (by decide), hf729 3 0 (by decide) (by decide) (by decide), hf741 35 0 (by decide) (by decide) (by decide) (by decide) (by decide) (by decide) (by decide) (by decide) (by decide) (by decide) (by decide) (by decide), hf729 35 0 (by decide) (by decide) (by decide)]; exact hi3) (by rw [hf741 5 0 (by decide) (by decide) (by decide) (by decide) (by decide) (by decide) (by decide) (by decide) (by decide) (by decide) (by decide) (by decide), hf729 5 0 (by decide) (by decide) (by decide)]; exact hi4) (by omega) (by rw [hf741 6 0 (by decide) (by decide) (by decide) (by decide) (by decide) (by decide) (by decide) (by decide) (by decide) (by decide) (by decide) (by decide), hf729 6 0 (by decide) (by decide) (by decide)]; exact hi6) (by omega) (by rw [hf741 101 0 (by decide) (by decide) (by decide) (by decide) (by decide) (by decide) (by decide) (by decide) (by decide) (by decide) (by decide) (by decide), hf729 101 0 (by decide) (by decide) (by decide), hf741 1 0 (by decide) (by decide) (by decide) (by decide) (by decide) (by decide) (by decide) (by decide) (by decide) (by decide) (by decide) (by decide), hf729 1 0 (by decide) (by decide) (by decide)]; exact hi8) (by rw [hf741 104 0 (by decide) (by decide) (by decide) (by decide) (by decide) (by decide) (by decide) (by decide) (by decide) (by decide) (by decide) (by decide), hf729 104 0 (by decide) (by decide) (by decide), hf741 2 0 (by decide) (by decide) (by decide) (by decide) (by decide) (by decide) (by decide) (by decide) (by decide) (by decide) (by decide) (by decide), hf729 2 0 (by decide) (by decide) (by decide)]; exact hi9) (by rw [hf741 112 0 (by decide) (by decide) (by decide) (by decide) (by decide) (by decide) (by decide) (by decide) (by decide) (by decide) (by decide) (by decide), hf729 112 0 (by decide) (by decide) (by decide), hf741 5 0 (by decide) (by decide) (by decide) (by decide) (by decide) (by decide) (by decide) (by decide) (by decide) (by decide) (by decide) (by decide), hf729 5 0 (by decide) (by decide) (by decide)]; exact hi10) (by rw [hf741 111 0 (by decide) (by decide) (by decide) (by decide) (by decide) (by decide) (by decide) (by decide) (by decide) (by decide) (by decide) (by decide), hf729 111 0 (by decide) (by decide) (by decide), hf741 4 0 (by decide) (by decide) (by decide) (by decide) (by decide) (by decide) (by decide) (by decide) (by decide) (by decide) (by decide) (by decide), hf729 4 0 (by decide) (by decide) (by decide)]; exact hi11) (by rw [hf741 114 0 (by decide) (by decide) (by decide) (by decide) (by decide) (by decide) (by decide) (by decide) (by decide) (by decide) (by decide) (by decide), hf729 114 0 (by decide) (by decide) (by decide), hf741 6 0 (by decide) (by decide) (by decide) (by decide) (by decide) (by decide) (by decide) (by decide) (by decide) (by decide) (by decide) (by decide), hf729 6 0 (by decide) (by decide) (by decide)]; exact hi12) (by rw [hf741 126 0 (by decide) (by decide) (by decide) (by decide) (by decide) (by decide) (by decide) (by decide) (by decide) (by decide) (by decide) (by decide), hf729 126 0 (by decide) (by decide) (by decide)]; exact hi13) (by rw [hf741 122 0 (by decide) (by decide) (by decide) (by decide) (by decide) (by decide) (by decide) (by decide) (by decide) (by decide) (by decide) (by decide), hf729 122 0 (by decide) (by decide) (by decide)]; exact hi14) (by (repeat (first | with_reducible assumption | (refine IJ_c (by decide) (by decide) (by decide) ?_) | (refine IJ_take (by omega) (by omega) ?_) | (refine IJ_how (by omega) ?_) | (refine IJ_by (by omega) ?_)))) hU t_q1 t_q12 t_q25 (by omega) (by omega) hG hS (lv_sub hl [0, 1, 2, 3, 4] rfl)
set_option maxHeartbeats 40000000 in
set_option maxRecDepth 100000 in
/-- the law's case 12 -/
theorem law_c12 {p : Program} {e : Env} {s : State} {m : MethodId} {below : List Frame} {meth : Method} {c : Code} (l : Launch) (hl9 : l.stackTraces = false) {b L : Nat} {xs : Nat → Int32} (hLN : L ≤ 3072) (hx : p.tables.exec = Jvm.exec) (hb : c.code = code) (hr : meth.sig.returnType = ret) (hml : c.maxLocals = 7) (hown : s.vm.findClass R_law = some m.cls) (hA : ∀ w ∈ AL, w.before #[Value.ref b] s = true) (hXs : va_X b L xs s s.heap) (hbl : b < s.heap.size) (hlocks : meth.locks = false) {dC : Nat → ClassId} {dI : Nat → Nat → Nat} {dA : Nat → ClassId} {sz : Nat} (hE : en dC dI dA sz s) (hsz : sz = s.heap.size) (hbA : ¬ ty_A sz b) (X : va_W) (q1 q12 q25 : Nat) (n : Nat) (ih : LJ p l e s m below meth c b dC dI dA sz X q1 q12 q25 n) (i : Int32) (Γ : ty_G) (g : gh) (kc ks : Nat) (H : Heap) (locs : List Loc) (ls : Array Slot) (hm : (3073 - i.toInt : Int) < (n + 1 : Nat)) (hi0 : 0 ≤ i.toInt ∧ i.toInt ≤ 3072) (hi1 : g 1 0 = g 33 0 ∧ 0 ≤ g 1 0 ∧ g 1 0 ≤ 6) (hi2 : g 2 0 = g 34 0 ∧ 0 ≤ g 2 0 ∧ g 2 0 ≤ 10) (hi3 : g 3 0 = g 35 0 ∧ 0 ≤ g 3 0 ∧ g 3 0 ≤ 200) (hi4 : 0 ≤ g 5 0 ∧ g 5 0 ≤ 52) (hi5 : 0 ≤ g 4 0 ∧ g 4 0 ≤ i.toInt) (hi6 : 0 ≤ g 6 0 ∧ g 6 0 ≤ 300) (hi7 : 0 ≤ g 7 0 ∧ g 7 0 ≤ g 36 0 ∧ g 36 0 ≤ 9) (hi8 : g 101 0 = g 1 0) (hi9 : g 104 0 = g 2 0) (hi10 : g 112 0 = g 5 0) (hi11 : g 111 0 = g 4 0) (hi12 : g 114 0 = g 6 0) (hi13 : 0 ≤ g 126 0 ∧ g 126 0 ≤ 200) (hi14 : 0 ≤ g 122 0 ∧ g 122 0 ≤ 30) (hIJ : IJ g) (hU : Un Γ) (t_q1 : ty Γ q1 1) (t_q12 : ty Γ q12 30) (t_q25 : ty Γ q25 25) (hkc : kc ≤ 300 + i.toInt.toNat) (hks : ks ≤ 30000 + 28 * i.toInt.toNat) (hG : ty_ok (dC, dI) vwCl Γ (TP dA Γ g) sz X H) (hS : va_S (ty_A sz) s.heap H locs) (hl : lv_has ls 7 [(4, .int i), (3, .ref q25), (2, .ref q12), (1, .ref q1), (0, .ref b)]) (hiL : i.toInt + 6 ≤ (L : Int)) : W p l e room_1 s m #[Value.ref b] below meth c H locs kc ks (lw_Z below #[Value.ref b] s) (F0 m 644 ls []) := by
  refine lv_aload_n hx hb dL_law_644 rfl (lv_at hl 3 rfl) ?_
  refine lv_aload_n hx hb dL_law_645 rfl (lv_at hl 4 rfl) ?_
  refine lv_iload hx hb dL_law_646 (lv_at hl 0 rfl) ?_
  refine ty_iconst hx hb (1) dL_law_648 (by decide) (fun x749 h750 => ?_)
  refine ty_iadd hx hb dL_law_649 (fun x751 h752 => ?_)
  have h753 := lw_ix (k := 1) h750 h752 hi0 hiL hLN (by decide)
  refine va_sld hx hb hXs hbl hbA hS (i := x751) (ty_ix h753.2) dL_law_650 ?_
  refine W.eq (g2 := F0 m 651 ls [.int (xs (i.toInt.toNat + 1)), .ref q1]) (by rw [lw_xs (xs := xs) h753.1 hi0.1]) ?_
  clear h753 h752 h750
  refine lv_topi (fun x754 s755 => ?_)
  refine cI (va_runV (C := RX8) (As := [.int x754]) (rest := []) ⟨hx, hb, hml, hown, hA⟩ (k_X8_bank l dC dI dA sz X Γ hU g q1 t_q1 x754   (by first | with_reducible assumption | omega)) ⟨callB_of 1 hA (al_A wd_3_186) rfl rfl rfl (hA _ wd_1_1) (hA _ wd_3_183) (by decide +kernel) ⟨Nat.le_of_ble_eq_true rfl, Nat.le_of_ble_eq_true rfl⟩, hA _ wd_3_184, hA _ wd_3_185⟩ ⟨bl, recv_X8 hE hG t_q1, fun U hU9 hW9 => ⟨rfl, by rw [hU9]; exact hG, hE.go hS hU9 hW9⟩⟩ rfl rfl hl.1 rfl (lv_room (Nat.le_of_ble_eq_true rfl)) dL_law_651 ⟨(Nat.le_trans (show kc + 0 ≤ 300000 by omega) (Nat.le_of_ble_eq_true rfl)), (Nat.le_trans (show ks + 0 ≤ 300000 by omega) (Nat.le_of_ble_eq_true rfl))⟩) hS (fun x758 u756 H locs w757 hG hS => ?_)
  have eu759 := w757
  rw [eu759] at hG
  refine lv_pop hx hb dL_law_654 rfl ?_
  refine lv_aload_n hx hb dL_law_655 rfl (lv_at hl 2 rfl) ?_
  refine lv_aload_n hx hb dL_law_656 rfl (lv_at hl 4 rfl) ?_
  refine lv_iload hx hb dL_law_657 (lv_at hl 0 rfl) ?_
  refine ty_iconst hx hb (1) dL_law_659 (by decide) (fun x760 h761 => ?_)
  refine ty_iadd hx hb dL_law_660 (fun x762 h763 => ?_)
  have h764 := lw_ix (k := 1) h761 h763 hi0 hiL hLN (by decide)
  refine va_sld hx hb hXs hbl hbA hS (i := x762) (ty_ix h764.2) dL_law_661 ?_
  refine W.eq (g2 := F0 m 662 ls [.int (xs (i.toInt.toNat + 1)), .ref q12]) (by rw [lw_xs (xs := xs) h764.1 hi0.1]) ?_
  clear h764 h763 h761
  refine W.eq (g2 := F0 m 662 ls [.int x754, .ref q12]) (by rw [s755]) ?_
  refine cI (va_runV (C := RX9) (As := [.int x754]) (rest := []) ⟨hx, hb, hml, hown, hA⟩ (k_X9_bank l dC dI dA sz X Γ hU g q12 t_q12 x754   (by first | with_reducible assumption | omega) (by (repeat (first | with_reducible assumption | (refine IJ_c (by decide) (by decide) (by decide) ?_) | (refine IJ_take (by omega) (by omega) ?_) | (refine IJ_how (by omega) ?_) | (refine IJ_by (by omega) ?_))))) ⟨callB_of 1 hA (al_A wd_5_168) rfl rfl rfl (hA _ wd_1_7) (hA _ wd_5_165) (by decide +kernel) ⟨Nat.le_of_ble_eq_true rfl, Nat.le_of_ble_eq_true rfl⟩, hA _ wd_5_166, hA _ wd_5_167⟩ ⟨bl, recv_X9 hE hG t_q12, fun U hU9 hW9 => ⟨rfl, by rw [hU9]; exact hG, hE.go hS hU9 hW9⟩⟩ rfl rfl hl.1 rfl (lv_room (Nat.le_of_ble_eq_true rfl)) dL_law_662 ⟨(Nat.le_trans (show kc + 0 ≤ 300000 by omega) (Nat.le_of_ble_eq_true rfl)), (Nat.le_trans (show ks + 0 ≤ 300000 by omega) (Nat.le_of_ble_eq_true rfl))⟩) hS (fun x767 u765 H locs w766 hG hS => ?_)
  obtain ⟨hf769, hq768⟩ := w766
  refine lv_pop hx hb dL_law_665 rfl ?_
  refine lv_goto (tgt := 1047) hx hb dL_law_666 (by decide) ?_
  obtain ⟨x770, h771⟩ : ∃ y : Int32, y = i + Int32.ofInt (6) := ⟨_, rfl⟩
  try have h772 : x770.toInt = i.toInt + (6) := ty_inc h771 (by decide) (by omega) (by omega)
  refine lv_iinc (v := x770) (lv' := [(4, .int x770), (3, .ref q25), (2, .ref q12), (1, .ref q1), (0, .ref b)]) hx hb dL_law_1047 hl (k := 0) rfl h771.symm (by decide) rfl (fun ls hl => ?_)
  refine lv_goto (tgt := 23) hx hb dL_law_1050 (by decide) ?_
  have hk773 : u765 4 0 = g 4 0 := hf769 4 0 (by decide) (by decide) (by decide)
  exact ih x770 Γ u765 (kc) (ks) _ _ ls (by omega) (by omega) (by rw [hf769 1 0 (by decide) (by decide) (by decide), hf769 33 0 (by decide) (by decide) (by decide)]; exact hi1) (by rw [hf769 2 0 (by decide) (by decide) (by decide), hf769 34 0 (by decide) (by decide) (by decide)]; exact hi2) (by rw [hf769 3 0 (by decide) (by decide) (by decide), hf769 35 0 (by decide) (by decide) (by decide)]; exact hi3) (by rw [hf769 5 0 (by decide) (by decide) (by decide)]; exact hi4) (by omega) (by rw [hf769 6 0 (by decide) (by decide) (by decide)]; exact hi6) (by rw [hf769 7 0 (by decide) (by decide) (by decide), hf769 36 0 (by decide) (by decide) (by decide)]; exact hi7) (by rw [hf769 101 0 (by decide) (by decide) (by decide), hf769 1 0 (by decide) (by decide) (by decide)]; exact hi8) (by rw [hf769 104 0 (by decide) (by decide) (by decide), hf769 2 0 (by decide) (by decide) (by decide)]; exact hi9) (by rw [hf769 112 0 (by decide) (by decide) (by decide), hf769 5 0 (by decide) (by decide) (by decide)]; exact hi10) (by rw [hf769 111 0 (by decide) (by decide) (by decide), hf769 4 0 (by decide) (by decide) (by decide)]; exact hi11) (by rw [hf769 114 0 (by decide) (by decide) (by decide), hf769 6 0 (by decide) (by decide) (by decide)]; exact hi12) (by rw [hf769 126 0 (by decide) (by decide) (by decide)]; exact hi13) (by rw [hf769 122 0 (by decide) (by decide) (by decide)]; exact hi14) (by (repeat (first | with_reducible assumption | (refine IJ_c (by decide) (by decide) (by decide) ?_) | (refine IJ_take (by omega) (by omega) ?_) | (refine IJ_how (by omega) ?_) | (refine IJ_by (by omega) ?_)))) hU t_q1 t_q12 t_q25 (by omega) (by omega) hG hS (lv_sub hl [0, 1, 2, 3, 4] rfl)
set_option maxHeartbeats 40000000 in
set_option maxRecDepth 100000 in
/-- the law's case 13 -/
theorem law_c13 {p : Program} {e : Env} {s : State} {m : MethodId} {below : List Frame} {meth : Method} {c : Code} (l : Launch) (hl9 : l.stackTraces = false) {b L : Nat} {xs : Nat → Int32} (hLN : L ≤ 3072) (hx : p.tables.exec = Jvm.exec) (hb : c.code = code) (hr : meth.sig.returnType = ret) (hml : c.maxLocals = 7) (hown : s.vm.findClass R_law = some m.cls) (hA : ∀ w ∈ AL, w.before #[Value.ref b] s = true) (hXs : va_X b L xs s s.heap) (hbl : b < s.heap.size) (hlocks : meth.locks = false) {dC : Nat → ClassId} {dI : Nat → Nat → Nat} {dA : Nat → ClassId} {sz : Nat} (hE : en dC dI dA sz s) (hsz : sz = s.heap.size) (hbA : ¬ ty_A sz b) (X : va_W) (q1 q12 q25 : Nat) (n : Nat) (ih : LJ p l e s m below meth c b dC dI dA sz X q1 q12 q25 n) (i : Int32) (Γ : ty_G) (g : gh) (kc ks : Nat) (H : Heap) (locs : List Loc) (ls : Array Slot) (hm : (3073 - i.toInt : Int) < (n + 1 : Nat)) (hi0 : 0 ≤ i.toInt ∧ i.toInt ≤ 3072) (hi1 : g 1 0 = g 33 0 ∧ 0 ≤ g 1 0 ∧ g 1 0 ≤ 6) (hi2 : g 2 0 = g 34 0 ∧ 0 ≤ g 2 0 ∧ g 2 0 ≤ 10) (hi3 : g 3 0 = g 35 0 ∧ 0 ≤ g 3 0 ∧ g 3 0 ≤ 200) (hi4 : 0 ≤ g 5 0 ∧ g 5 0 ≤ 52) (hi5 : 0 ≤ g 4 0 ∧ g 4 0 ≤ i.toInt) (hi6 : 0 ≤ g 6 0 ∧ g 6 0 ≤ 300) (hi7 : 0 ≤ g 7 0 ∧ g 7 0 ≤ g 36 0 ∧ g 36 0 ≤ 9) (hi8 : g 101 0 = g 1 0) (hi9 : g 104 0 = g 2 0) (hi10 : g 112 0 = g 5 0) (hi11 : g 111 0 = g 4 0) (hi12 : g 114 0 = g 6 0) (hi13 : 0 ≤ g 126 0 ∧ g 126 0 ≤ 200) (hi14 : 0 ≤ g 122 0 ∧ g 122 0 ≤ 30) (hIJ : IJ g) (hU : Un Γ) (t_q1 : ty Γ q1 1) (t_q12 : ty Γ q12 30) (t_q25 : ty Γ q25 25) (hkc : kc ≤ 300 + i.toInt.toNat) (hks : ks ≤ 30000 + 28 * i.toInt.toNat) (hG : ty_ok (dC, dI) vwCl Γ (TP dA Γ g) sz X H) (hS : va_S (ty_A sz) s.heap H locs) (hl : lv_has ls 7 [(4, .int i), (3, .ref q25), (2, .ref q12), (1, .ref q1), (0, .ref b)]) (hiL : i.toInt + 6 ≤ (L : Int)) : W p l e room_1 s m #[Value.ref b] below meth c H locs kc ks (lw_Z below #[Value.ref b] s) (F0 m 669 ls []) := by
  refine lv_aload_n hx hb dL_law_669 rfl (lv_at hl 3 rfl) ?_
  refine lv_aload_n hx hb dL_law_670 rfl (lv_at hl 4 rfl) ?_
  refine lv_iload hx hb dL_law_671 (lv_at hl 0 rfl) ?_
  refine ty_iconst hx hb (1) dL_law_673 (by decide) (fun x774 h775 => ?_)
  refine ty_iadd hx hb dL_law_674 (fun x776 h777 => ?_)
  have h778 := lw_ix (k := 1) h775 h777 hi0 hiL hLN (by decide)
  refine va_sld hx hb hXs hbl hbA hS (i := x776) (ty_ix h778.2) dL_law_675 ?_
  refine W.eq (g2 := F0 m 676 ls [.int (xs (i.toInt.toNat + 1)), .ref q1]) (by rw [lw_xs (xs := xs) h778.1 hi0.1]) ?_
  clear h778 h777 h775
  refine lv_topi (fun x779 s780 => ?_)
  refine lv_aload_n hx hb dL_law_676 rfl (lv_at hl 4 rfl) ?_
  refine lv_iload hx hb dL_law_677 (lv_at hl 0 rfl) ?_
  refine ty_iconst hx hb (2) dL_law_679 (by decide) (fun x781 h782 => ?_)
  refine ty_iadd hx hb dL_law_680 (fun x783 h784 => ?_)
  have h785 := lw_ix (k := 2) h782 h784 hi0 hiL hLN (by decide)
  refine va_sld hx hb hXs hbl hbA hS (i := x783) (ty_ix h785.2) dL_law_681 ?_
  refine W.eq (g2 := F0 m 682 ls [.int (xs (i.toInt.toNat + 2)), .int x779, .ref q1]) (by rw [lw_xs (xs := xs) h785.1 hi0.1]) ?_
  clear h785 h784 h782
  refine lv_topi (fun x786 s787 => ?_)
  refine cI (va_runV (C := RX8) (As := [.int x779, .int x786]) (rest := []) ⟨hx, hb, hml, hown, hA⟩ (k_X8_take l dC dI dA sz X Γ hU g q1 t_q1 x779 x786   (by first | with_reducible assumption | omega) (by first | with_reducible assumption | omega)) ⟨callB_of 2 hA (al_A wd_3_190) rfl rfl rfl (hA _ wd_1_1) (hA _ wd_3_187) (by decide +kernel) ⟨Nat.le_of_ble_eq_true rfl, Nat.le_of_ble_eq_true rfl⟩, hA _ wd_3_188, hA _ wd_3_189⟩ ⟨bl, recv_X8 hE hG t_q1, fun U hU9 hW9 => ⟨rfl, by rw [hU9]; exact hG, hE.go hS hU9 hW9⟩⟩ rfl rfl hl.1 rfl (lv_room (Nat.le_of_ble_eq_true rfl)) dL_law_682 ⟨(Nat.le_trans (show kc + 0 ≤ 300000 by omega) (Nat.le_of_ble_eq_true rfl)), (Nat.le_trans (show ks + 0 ≤ 300000 by omega) (Nat.le_of_ble_eq_true rfl))⟩) hS (fun x790 u788 H locs w789 hG hS => ?_)
  have eu791 := w789
  rw [eu791] at hG
  refine lv_pop hx hb dL_law_685 rfl ?_
  refine lv_aload_n hx hb dL_law_686 rfl (lv_at hl 2 rfl) ?_
  refine lv_aload_n hx hb dL_law_687 rfl (lv_at hl 4 rfl) ?_
  refine lv_iload hx hb dL_law_688 (lv_at hl 0 rfl) ?_
  refine ty_iconst hx hb (1) dL_law_690 (by decide) (fun x792 h793 => ?_)
  refine ty_iadd hx hb dL_law_691 (fun x794 h795 => ?_)
  have h796 := lw_ix (k := 1) h793 h795 hi0 hiL hLN (by decide)
  refine va_sld hx hb hXs hbl hbA hS (i := x794) (ty_ix h796.2) dL_law_692 ?_
  refine W.eq (g2 := F0 m 693 ls [.int (xs (i.toInt.toNat + 1)), .ref q12]) (by rw [lw_xs (xs := xs) h796.1 hi0.1]) ?_
  clear h796 h795 h793
  refine W.eq (g2 := F0 m 693 ls [.int x779, .ref q12]) (by rw [s780]) ?_
  refine lv_aload_n hx hb dL_law_693 rfl (lv_at hl 4 rfl) ?_
  refine lv_iload hx hb dL_law_694 (lv_at hl 0 rfl) ?_
  refine ty_iconst hx hb (2) dL_law_696 (by decide) (fun x797 h798 => ?_)
  refine ty_iadd hx hb dL_law_697 (fun x799 h800 => ?_)
  have h801 := lw_ix (k := 2) h798 h800 hi0 hiL hLN (by decide)
  refine va_sld hx hb hXs hbl hbA hS (i := x799) (ty_ix h801.2) dL_law_698 ?_
  refine W.eq (g2 := F0 m 699 ls [.int (xs (i.toInt.toNat + 2)), .int x779, .ref q12]) (by rw [lw_xs (xs := xs) h801.1 hi0.1]) ?_
  clear h801 h800 h798
  refine W.eq (g2 := F0 m 699 ls [.int x786, .int x779, .ref q12]) (by rw [s787]) ?_
  refine cI (va_runV (C := RX9) (As := [.int x779, .int x786]) (rest := []) ⟨hx, hb, hml, hown, hA⟩ (k_X9_take l dC dI dA sz X Γ hU g q12 t_q12 x779 x786   (by first | with_reducible assumption | omega) (by first | with_reducible assumption | omega) (by (repeat (first | with_reducible assumption | (refine IJ_c (by decide) (by decide) (by decide) ?_) | (refine IJ_take (by omega) (by omega) ?_) | (refine IJ_how (by omega) ?_) | (refine IJ_by (by omega) ?_))))) ⟨callB_of 2 hA (al_A wd_5_172) rfl rfl rfl (hA _ wd_1_7) (hA _ wd_5_169) (by decide +kernel) ⟨Nat.le_of_ble_eq_true rfl, Nat.le_of_ble_eq_true rfl⟩, hA _ wd_5_170, hA _ wd_5_171⟩ ⟨bl, recv_X9 hE hG t_q12, fun U hU9 hW9 => ⟨rfl, by rw [hU9]; exact hG, hE.go hS hU9 hW9⟩⟩ rfl rfl hl.1 rfl (lv_room (Nat.le_of_ble_eq_true rfl)) dL_law_699 ⟨(Nat.le_trans (show kc + 0 ≤ 300000 by omega) (Nat.le_of_ble_eq_true rfl)), (Nat.le_trans (show ks + 0 ≤ 300000 by omega) (Nat.le_of_ble_eq_true rfl))⟩) hS (fun x804 u802 H locs w803 hG hS => ?_)
  obtain ⟨hf806, hq805⟩ := w803
  refine lv_pop hx hb dL_law_702 rfl ?_
  refine lv_goto (tgt := 1047) hx hb dL_law_703 (by decide) ?_
  obtain ⟨x807, h808⟩ : ∃ y : Int32, y = i + Int32.ofInt (6) := ⟨_, rfl⟩
  try have h809 : x807.toInt = i.toInt + (6) := ty_inc h808 (by decide) (by omega) (by omega)
  refine lv_iinc (v := x807) (lv' := [(4, .int x807), (3, .ref q25), (2, .ref q12), (1, .ref q1), (0, .ref b)]) hx hb dL_law_1047 hl (k := 0) rfl h808.symm (by decide) rfl (fun ls hl => ?_)
  refine lv_goto (tgt := 23) hx hb dL_law_1050 (by decide) ?_
  have hk810 : u802 4 0 = g 4 0 := hf806 4 0 (by decide) (by decide) (by decide) (by decide)
  exact ih x807 Γ u802 (kc) (ks) _ _ ls (by omega) (by omega) (by rw [hf806 1 0 (by decide) (by decide) (by decide) (by decide), hf806 33 0 (by decide) (by decide) (by decide) (by decide)]; exact hi1) (by rw [hf806 2 0 (by decide) (by decide) (by decide) (by decide), hf806 34 0 (by decide) (by decide) (by decide) (by decide)]; exact hi2) (by rw [hf806 3 0 (by decide) (by decide) (by decide) (by decide), hf806 35 0 (by decide) (by decide) (by decide) (by decide)]; exact hi3) (by rw [hf806 5 0 (by decide) (by decide) (by decide) (by decide)]; exact hi4) (by omega) (by rw [hf806 6 0 (by decide) (by decide) (by decide) (by decide)]; exact hi6) (by rw [hf806 7 0 (by decide) (by decide) (by decide) (by decide), hf806 36 0 (by decide) (by decide) (by decide) (by decide)]; exact hi7) (by rw [hf806 101 0 (by decide) (by decide) (by decide) (by decide), hf806 1 0 (by decide) (by decide) (by decide) (by decide)]; exact hi8) (by rw [hf806 104 0 (by decide) (by decide) (by decide) (by decide), hf806 2 0 (by decide) (by decide) (by decide) (by decide)]; exact hi9) (by rw [hf806 112 0 (by decide) (by decide) (by decide) (by decide), hf806 5 0 (by decide) (by decide) (by decide) (by decide)]; exact hi10) (by rw [hf806 111 0 (by decide) (by decide) (by decide) (by decide), hf806 4 0 (by decide) (by decide) (by decide) (by decide)]; exact hi11) (by rw [hf806 114 0 (by decide) (by decide) (by decide) (by decide), hf806 6 0 (by decide) (by decide) (by decide) (by decide)]; exact hi12) (by rw [hf806 126 0 (by decide) (by decide) (by decide) (by decide)]; exact hi13) (by rw [hf806 122 0 (by decide) (by decide) (by decide) (by decide)]; exact hi14) (by (repeat (first | with_reducible assumption | (refine IJ_c (by decide) (by decide) (by decide) ?_) | (refine IJ_take (by omega) (by omega) ?_) | (refine IJ_how (by omega) ?_) | (refine IJ_by (by omega) ?_)))) hU t_q1 t_q12 t_q25 (by omega) (by omega) hG hS (lv_sub hl [0, 1, 2, 3, 4] rfl)
set_option maxHeartbeats 40000000 in
set_option maxRecDepth 100000 in
/-- the law's case 14 -/
theorem law_c14 {p : Program} {e : Env} {s : State} {m : MethodId} {below : List Frame} {meth : Method} {c : Code} (l : Launch) (hl9 : l.stackTraces = false) {b L : Nat} {xs : Nat → Int32} (hLN : L ≤ 3072) (hx : p.tables.exec = Jvm.exec) (hb : c.code = code) (hr : meth.sig.returnType = ret) (hml : c.maxLocals = 7) (hown : s.vm.findClass R_law = some m.cls) (hA : ∀ w ∈ AL, w.before #[Value.ref b] s = true) (hXs : va_X b L xs s s.heap) (hbl : b < s.heap.size) (hlocks : meth.locks = false) {dC : Nat → ClassId} {dI : Nat → Nat → Nat} {dA : Nat → ClassId} {sz : Nat} (hE : en dC dI dA sz s) (hsz : sz = s.heap.size) (hbA : ¬ ty_A sz b) (X : va_W) (q1 q12 q25 : Nat) (n : Nat) (ih : LJ p l e s m below meth c b dC dI dA sz X q1 q12 q25 n) (i : Int32) (Γ : ty_G) (g : gh) (kc ks : Nat) (H : Heap) (locs : List Loc) (ls : Array Slot) (hm : (3073 - i.toInt : Int) < (n + 1 : Nat)) (hi0 : 0 ≤ i.toInt ∧ i.toInt ≤ 3072) (hi1 : g 1 0 = g 33 0 ∧ 0 ≤ g 1 0 ∧ g 1 0 ≤ 6) (hi2 : g 2 0 = g 34 0 ∧ 0 ≤ g 2 0 ∧ g 2 0 ≤ 10) (hi3 : g 3 0 = g 35 0 ∧ 0 ≤ g 3 0 ∧ g 3 0 ≤ 200) (hi4 : 0 ≤ g 5 0 ∧ g 5 0 ≤ 52) (hi5 : 0 ≤ g 4 0 ∧ g 4 0 ≤ i.toInt) (hi6 : 0 ≤ g 6 0 ∧ g 6 0 ≤ 300) (hi7 : 0 ≤ g 7 0 ∧ g 7 0 ≤ g 36 0 ∧ g 36 0 ≤ 9) (hi8 : g 101 0 = g 1 0) (hi9 : g 104 0 = g 2 0) (hi10 : g 112 0 = g 5 0) (hi11 : g 111 0 = g 4 0) (hi12 : g 114 0 = g 6 0) (hi13 : 0 ≤ g 126 0 ∧ g 126 0 ≤ 200) (hi14 : 0 ≤ g 122 0 ∧ g 122 0 ≤ 30) (hIJ : IJ g) (hU : Un Γ) (t_q1 : ty Γ q1 1) (t_q12 : ty Γ q12 30) (t_q25 : ty Γ q25 25) (hkc : kc ≤ 300 + i.toInt.toNat) (hks : ks ≤ 30000 + 28 * i.toInt.toNat) (hG : ty_ok (dC, dI) vwCl Γ (TP dA Γ g) sz X H) (hS : va_S (ty_A sz) s.heap H locs) (hl : lv_has ls 7 [(4, .int i), (3, .ref q25), (2, .ref q12), (1, .ref q1), (0, .ref b)]) (hiL : i.toInt + 6 ≤ (L : Int)) : W p l e room_1 s m #[Value.ref b] below meth c H locs kc ks (lw_Z below #[Value.ref b] s) (F0 m 706 ls []) := by
  refine lv_aload_n hx hb dL_law_706 rfl (lv_at hl 3 rfl) ?_
  refine cI (va_runV (C := RX8) (As := []) (rest := []) ⟨hx, hb, hml, hown, hA⟩ (k_X8_rush l dC dI dA sz X Γ hU g q1 t_q1   (by first | with_reducible assumption | omega) (by first | with_reducible assumption | omega)) ⟨callB_of 0 hA (al_A wd_3_198) rfl rfl rfl (hA _ wd_1_1) (hA _ wd_3_195) (by decide +kernel) ⟨Nat.le_of_ble_eq_true rfl, Nat.le_of_ble_eq_true rfl⟩, hA _ wd_3_196, hA _ wd_3_197⟩ ⟨bl, recv_X8 hE hG t_q1, fun U hU9 hW9 => ⟨rfl, by rw [hU9]; exact hG, hE.go hS hU9 hW9⟩⟩ rfl rfl hl.1 rfl (lv_room (Nat.le_of_ble_eq_true rfl)) dL_law_707 ⟨(Nat.le_trans (show kc + 0 ≤ 300000 by omega) (Nat.le_of_ble_eq_true rfl)), (Nat.le_trans (show ks + 0 ≤ 300000 by omega) (Nat.le_of_ble_eq_true rfl))⟩) hS (fun x813 u811 H locs w812 hG hS => ?_)
  have eu814 := w812
  rw [eu814] at hG
  refine lv_pop hx hb dL_law_710 rfl ?_
  refine lv_aload_n hx hb dL_law_711 rfl (lv_at hl 2 rfl) ?_
  refine cI (va_runV (C := RX9) (As := []) (rest := []) ⟨hx, hb, hml, hown, hA⟩ (k_X9_rush l dC dI dA sz X Γ hU g q12 t_q12   (by first | with_reducible assumption | omega) (by first | with_reducible assumption | omega) (by (repeat (first | with_reducible assumption | (refine IJ_c (by decide) (by decide) (by decide) ?_) | (refine IJ_take (by omega) (by omega) ?_) | (refine IJ_how (by omega) ?_) | (refine IJ_by (by omega) ?_))))) ⟨callB_of 0 hA (al_A wd_5_180) rfl rfl rfl (hA _ wd_1_7) (hA _ wd_5_177) (by decide +kernel) ⟨Nat.le_of_ble_eq_true rfl, Nat.le_of_ble_eq_true rfl⟩, hA _ wd_5_178, hA _ wd_5_179⟩ ⟨bl, recv_X9 hE hG t_q12, fun U hU9 hW9 => ⟨rfl, by rw [hU9]; exact hG, hE.go hS hU9 hW9⟩⟩ rfl rfl hl.1 rfl (lv_room (Nat.le_of_ble_eq_true rfl)) dL_law_712 ⟨(Nat.le_trans (show kc + 0 ≤ 300000 by omega) (Nat.le_of_ble_eq_true rfl)), (Nat.le_trans (show ks + 0 ≤ 300000 by omega) (Nat.le_of_ble_eq_true rfl))⟩) hS (fun x817 u815 H locs w816 hG hS => ?_)
  obtain ⟨hf819, hq818⟩ := w816
  refine lv_pop hx hb dL_law_715 rfl ?_
  refine lv_goto (tgt := 1047) hx hb dL_law_716 (by decide) ?_
  obtain ⟨x820, h821⟩ : ∃ y : Int32, y = i + Int32.ofInt (6) := ⟨_, rfl⟩
  try have h822 : x820.toInt = i.toInt + (6) := ty_inc h821 (by decide) (by omega) (by omega)
  refine lv_iinc (v := x820) (lv' := [(4, .int x820), (3, .ref q25), (2, .ref q12), (1, .ref q1), (0, .ref b)]) hx hb dL_law_1047 hl (k := 0) rfl h821.symm (by decide) rfl (fun ls hl => ?_)
  refine lv_goto (tgt := 23) hx hb dL_law_1050 (by decide) ?_
  have hk823 : u815 4 0 = g 4 0 := hf819 4 0 (by decide) (by decide) (by decide) (by decide) (by decide) (by decide) (by decide) (by decide)
  exact ih x820 Γ u815 (kc) (ks) _ _ ls (by omega) (by omega) (by rw [hf819 1 0 (by decide) (by decide) (by decide) (by decide) (by decide) (by decide) (by decide) (by decide), hf819 33 0 (by decide) (by decide) (by decide) (by decide) (by decide) (by decide) (by decide) (by decide)]; exact hi1) (by rw [hf819 2 0 (by decide) (by decide) (by decide) (by decide) (by decide) (by decide) (by decide) (by decide), hf819 34 0 (by decide) (by decide) (by decide) (by decide) (by decide) (by decide) (by decide) (by decide)]; exact hi2) (by rw [hf819 3 0 (by decide) (by decide) (by decide) (by decide) (by decide) (by decide) (by decide) (by decide), hf819 35 0 (by decide) (by decide) (by decide) (by decide) (by decide) (by decide) (by decide) (by decide)]; exact hi3) (by rw [hf819 5 0 (by decide) (by decide) (by decide) (by decide) (by decide) (by decide) (by decide) (by decide)]; exact hi4) (by omega) (by rw [hf819 6 0 (by decide) (by decide) (by decide) (by decide) (by decide) (by decide) (by decide) (by decide)]; exact hi6) (by rw [hf819 7 0 (by decide) (by decide) (by decide) (by decide) (by decide) (by decide) (by decide) (by decide), hf819 36 0 (by decide) (by decide) (by decide) (by decide) (by decide) (by decide) (by decide) (by decide)]; exact hi7) (by rw [hf819 101 0 (by decide) (by decide) (by decide) (by decide) (by decide) (by decide) (by decide) (by decide), hf819 1 0 (by decide) (by decide) (by decide) (by decide) (by decide) (by decide) (by decide) (by decide)]; exact hi8) (by rw [hf819 104 0 (by decide) (by decide) (by decide) (by decide) (by decide) (by decide) (by decide) (by decide), hf819 2 0 (by decide) (by decide) (by decide) (by decide) (by decide) (by decide) (by decide) (by decide)]; exact hi9) (by rw [hf819 112 0 (by decide) (by decide) (by decide) (by decide) (by decide) (by decide) (by decide) (by decide), hf819 5 0 (by decide) (by decide) (by decide) (by decide) (by decide) (by decide) (by decide) (by decide)]; exact hi10) (by rw [hf819 111 0 (by decide) (by decide) (by decide) (by decide) (by decide) (by decide) (by decide) (by decide), hf819 4 0 (by decide) (by decide) (by decide) (by decide) (by decide) (by decide) (by decide) (by decide)]; exact hi11) (by rw [hf819 114 0 (by decide) (by decide) (by decide) (by decide) (by decide) (by decide) (by decide) (by decide), hf819 6 0 (by decide) (by decide) (by decide) (by decide) (by decide) (by decide) (by decide) (by decide)]; exact hi12) (by rw [hf819 126 0 (by decide) (by decide) (by decide) (by decide) (by decide) (by decide) (by decide) (by decide)]; exact hi13) (by rw [hf819 122 0 (by decide) (by decide) (by decide) (by decide) (by decide) (by decide) (by decide) (by decide)]; exact hi14) (by (repeat (first | with_reducible assumption | (refine IJ_c (by decide) (by decide) (by decide) ?_) | (refine IJ_take (by omega) (by omega) ?_) | (refine IJ_how (by omega) ?_) | (refine IJ_by (by omega) ?_)))) hU t_q1 t_q12 t_q25 (by omega) (by omega) hG hS (lv_sub hl [0, 1, 2, 3, 4] rfl)
set_option maxHeartbeats 40000000 in
set_option maxRecDepth 100000 in
/-- the law's case 15 -/
theorem law_c15 {p : Program} {e : Env} {s : State} {m : MethodId} {below : List Frame} {meth : Method} {c : Code} (l : Launch) (hl9 : l.stackTraces = false) {b L : Nat} {xs : Nat → Int32} (hLN : L ≤ 3072) (hx : p.tables.exec = Jvm.exec) (hb : c.code = code) (hr : meth.sig.returnType = ret) (hml : c.maxLocals = 7) (hown : s.vm.findClass R_law = some m.cls) (hA : ∀ w ∈ AL, w.before #[Value.ref b] s = true) (hXs : va_X b L xs s s.heap) (hbl : b < s.heap.size) (hlocks : meth.locks = false) {dC : Nat → ClassId} {dI : Nat → Nat → Nat} {dA : Nat → ClassId} {sz : Nat} (hE : en dC dI dA sz s) (hsz : sz = s.heap.size) (hbA : ¬ ty_A sz b) (X : va_W) (q1 q12 q25 : Nat) (n : Nat) (ih : LJ p l e s m below meth c b dC dI dA sz X q1 q12 q25 n) (i : Int32) (Γ : ty_G) (g : gh) (kc ks : Nat) (H : Heap) (locs : List Loc) (ls : Array Slot) (hm : (3073 - i.toInt : Int) < (n + 1 : Nat)) (hi0 : 0 ≤ i.toInt ∧ i.toInt ≤ 3072) (hi1 : g 1 0 = g 33 0 ∧ 0 ≤ g 1 0 ∧ g 1 0 ≤ 6) (hi2 : g 2 0 = g 34 0 ∧ 0 ≤ g 2 0 ∧ g 2 0 ≤ 10) (hi3 : g 3 0 = g 35 0 ∧ 0 ≤ g 3 0 ∧ g 3 0 ≤ 200) (hi4 : 0 ≤ g 5 0 ∧ g 5 0 ≤ 52) (hi5 : 0 ≤ g 4 0 ∧ g 4 0 ≤ i.toInt) (hi6 : 0 ≤ g 6 0 ∧ g 6 0 ≤ 300) (hi7 : 0 ≤ g 7 0 ∧ g 7 0 ≤ g 36 0 ∧ g 36 0 ≤ 9) (hi8 : g 101 0 = g 1 0) (hi9 : g 104 0 = g 2 0) (hi10 : g 112 0 = g 5 0) (hi11 : g 111 0 = g 4 0) (hi12 : g 114 0 = g 6 0) (hi13 : 0 ≤ g 126 0 ∧ g 126 0 ≤ 200) (hi14 : 0 ≤ g 122 0 ∧ g 122 0 ≤ 30) (hIJ : IJ g) (hU : Un Γ) (t_q1 : ty Γ q1 1) (t_q12 : ty Γ q12 30) (t_q25 : ty Γ q25 25) (hkc : kc ≤ 300 + i.toInt.toNat) (hks : ks ≤ 30000 + 28 * i.toInt.toNat) (hG : ty_ok (dC, dI) vwCl Γ (TP dA Γ g) sz X H) (hS : va_S (ty_A sz) s.heap H locs) (hl : lv_has ls 7 [(4, .int i), (3, .ref q25), (2, .ref q12), (1, .ref q1), (0, .ref b)]) (hiL : i.toInt + 6 ≤ (L : Int)) : W p l e room_1 s m #[Value.ref b] below meth c H locs kc ks (lw_Z below #[Value.ref b] s) (F0 m 719 ls []) := by
  refine lv_aload_n hx hb dL_law_719 rfl (lv_at hl 3 rfl) ?_
  refine lv_aload_n hx hb dL_law_720 rfl (lv_at hl 4 rfl) ?_
  refine lv_iload hx hb dL_law_721 (lv_at hl 0 rfl) ?_
  refine ty_iconst hx hb (1) dL_law_723 (by decide) (fun x824 h825 => ?_)
  refine ty_iadd hx hb dL_law_724 (fun x826 h827 => ?_)
  have h828 := lw_ix (k := 1) h825 h827 hi0 hiL hLN (by decide)
  refine va_sld hx hb hXs hbl hbA hS (i := x826) (ty_ix h828.2) dL_law_725 ?_
  refine W.eq (g2 := F0 m 726 ls [.int (xs (i.toInt.toNat + 1)), .ref q1]) (by rw [lw_xs (xs := xs) h828.1 hi0.1]) ?_
  clear h828 h827 h825
  refine lv_topi (fun x829 s830 => ?_)
  refine lv_aload_n hx hb dL_law_726 rfl (lv_at hl 4 rfl) ?_
  refine lv_iload hx hb dL_law_727 (lv_at hl 0 rfl) ?_
  refine ty_iconst hx hb (2) dL_law_729 (by decide) (fun x831 h832 => ?_)
  refine ty_iadd hx hb dL_law_730 (fun x833 h834 => ?_)
  have h835 := lw_ix (k := 2) h832 h834 hi0 hiL hLN (by decide)
  refine va_sld hx hb hXs hbl hbA hS (i := x833) (ty_ix h835.2) dL_law_731 ?_
  refine W.eq (g2 := F0 m 732 ls [.int (xs (i.toInt.toNat + 2)), .int x829, .ref q1]) (by rw [lw_xs (xs := xs) h835.1 hi0.1]) ?_
  clear h835 h834 h832
  refine lv_topi (fun x836 s837 => ?_)
  refine lv_aload_n hx hb dL_law_732 rfl (lv_at hl 4 rfl) ?_
  refine lv_iload hx hb dL_law_733 (lv_at hl 0 rfl) ?_
  refine ty_iconst hx hb (3) dL_law_735 (by decide) (fun x838 h839 => ?_)
  refine ty_iadd hx hb dL_law_736 (fun x840 h841 => ?_)
  have h842 := lw_ix (k := 3) h839 h841 hi0 hiL hLN (by decide)
  refine va_sld hx hb hXs hbl hbA hS (i := x840) (ty_ix h842.2) dL_law_737 ?_
  refine W.eq (g2 := F0 m 738 ls [.int (xs (i.toInt.toNat + 3)), .int x836, .int x829, .ref q1]) (by rw [lw_xs (xs := xs) h842.1 hi0.1]) ?_
  clear h842 h841 h839
  refine lv_topi (fun x843 s844 => ?_)
  refine cI (va_runV (C := RX8) (As := [.int x829, .int x836, .int x843]) (rest := []) ⟨hx, hb, hml, hown, hA⟩ (k_X8_shut l dC dI dA sz X Γ hU g q1 t_q1 x829 x836 x843   (by first | with_reducible assumption | omega) (by first | with_reducible assumption | omega) (by first | with_reducible assumption | omega)) ⟨callB_of 3 hA (al_A wd_3_211) rfl rfl rfl (hA _ wd_1_1) (hA _ wd_3_208) (by decide +kernel) ⟨Nat.le_of_ble_eq_true rfl, Nat.le_of_ble_eq_true rfl⟩, hA _ wd_3_209, hA _ wd_3_210⟩ ⟨bl, recv_X8 hE hG t_q1, fun U hU9 hW9 => ⟨rfl, by rw [hU9]; exact hG, hE.go hS hU9 hW9⟩⟩ rfl rfl hl.1 rfl (lv_room (Nat.le_of_ble_eq_true rfl)) dL_law_738 ⟨(Nat.le_trans (show kc + 0 ≤ 300000 by omega) (Nat.le_of_ble_eq_true rfl)), (Nat.le_trans (show ks + 0 ≤ 300000 by omega) (Nat.le_of_ble_eq_true rfl))⟩) hS (fun x847 u845 H locs w846 hG hS => ?_)
  have eu848 := w846
  rw [eu848] at hG
  refine lv_pop hx hb dL_law_741 rfl ?_
  refine lv_aload_n hx hb dL_law_742 rfl (lv_at hl 2 rfl) ?_
  refine lv_aload_n hx hb dL_law_743 rfl (lv_at hl 4 rfl) ?_
  refine lv_iload hx hb dL_law_744 (lv_at hl 0 rfl) ?_
  refine ty_iconst hx hb (1) dL_law_746 (by decide) (fun x849 h850 => ?_)
  refine ty_iadd hx hb dL_law_747 (fun x851 h852 => ?_)
  have h853 := lw_ix (k := 1) h850 h852 hi0 hiL hLN (by decide)
  refine va_sld hx hb hXs hbl hbA hS (i := x851) (ty_ix h853.2) dL_law_748 ?_
  refine W.eq (g2 := F0 m 749 ls [.int (xs (i.toInt.toNat + 1)), .ref q12]) (by rw [lw_xs (xs := xs) h853.1 hi0.1]) ?_
  clear h853 h852 h850
  refine W.eq (g2 := F0 m 749 ls [.int x829, .ref q12]) (by rw [s830]) ?_
  refine lv_aload_n hx hb dL_law_749 rfl (lv_at hl 4 rfl) ?_
  refine lv_iload hx hb dL_law_750 (lv_at hl 0 rfl) ?_
  refine ty_iconst hx hb (2) dL_law_752 (by decide) (fun x854 h855 => ?_)
  refine ty_iadd hx hb dL_law_753 (fun x856 h857 => ?_)
  have h858 := lw_ix (k := 2) h855 h857 hi0 hiL hLN (by decide)
  refine va_sld hx hb hXs hbl hbA hS (i := x856) (ty_ix h858.2) dL_law_754 ?_
  refine W.eq (g2 := F0 m 755 ls [.int (xs (i.toInt.toNat + 2)), .int x829, .ref q12]) (by rw [lw_xs (xs := xs) h858.1 hi0.1]) ?_
  clear h858 h857 h855
  refine W.eq (g2 := F0 m 755 ls [.int x836, .int x829, .ref q12]) (by rw [s837]) ?_
  refine lv_aload_n hx hb dL_law_755 rfl (lv_at hl 4 rfl) ?_
  refine lv_iload hx hb dL_law_756 (lv_at hl 0 rfl) ?_
  refine ty_iconst hx hb (3) dL_law_758 (by decide) (fun x859 h860 => ?_)
  refine ty_iadd hx hb dL_law_759 (fun x861 h862 => ?_)
  have h863 := lw_ix (k := 3) h860 h862 hi0 hiL hLN (by decide)
  refine va_sld hx hb hXs hbl hbA hS (i := x861) (ty_ix h863.2) dL_law_760 ?_
  refine W.eq (g2 := F0 m 761 ls [.int (xs (i.toInt.toNat + 3)), .int x836, .int x829, .ref q12]) (by rw [lw_xs (xs := xs) h863.1 hi0.1]) ?_
  clear h863 h862 h860
  refine W.eq (g2 := F0 m 761 ls [.int x843, .int x836, .int x829, .ref q12]) (by rw [s844]) ?_
  refine cI (va_runV (C := RX9) (As := [.int x829, .int x836, .int x843]) (rest := []) ⟨hx, hb, hml, hown, hA⟩ (k_X9_shut l dC dI dA sz X Γ hU g q12 t_q12 x829 x836 x843   (by first | with_reducible assumption | omega) (by first | with_reducible assumption | omega) (by first | with_reducible assumption | omega) (by (repeat (first | with_reducible assumption | (refine IJ_c (by decide) (by decide) (by decide) ?_) | (refine IJ_take (by omega) (by omega) ?_) | (refine IJ_how (by omega) ?_) | (refine IJ_by (by omega) ?_))))) ⟨callB_of 3 hA (al_A wd_5_188) rfl rfl rfl (hA _ wd_1_7) (hA _ wd_5_185) (by decide +kernel) ⟨Nat.le_of_ble_eq_true rfl, Nat.le_of_ble_eq_true rfl⟩, hA _ wd_5_186, hA _ wd_5_187⟩ ⟨bl, recv_X9 hE hG t_q12, fun U hU9 hW9 => ⟨rfl, by rw [hU9]; exact hG, hE.go hS hU9 hW9⟩⟩ rfl rfl hl.1 rfl (lv_room (Nat.le_of_ble_eq_true rfl)) dL_law_761 ⟨(Nat.le_trans (show kc + 0 ≤ 300000 by omega) (Nat.le_of_ble_eq_true rfl)), (Nat.le_trans (show ks + 0 ≤ 300000 by omega) (Nat.le_of_ble_eq_true rfl))⟩) hS (fun x866 u864 H locs w865 hG hS => ?_)
  obtain ⟨hf868, hq867⟩ := w865
  refine lv_pop hx hb dL_law_764 rfl ?_
  refine lv_goto (tgt := 1047) hx hb dL_law_765 (by decide) ?_
  obtain ⟨x869, h870⟩ : ∃ y : Int32, y = i + Int32.ofInt (6) := ⟨_, rfl⟩
  try have h871 : x869.toInt = i.toInt + (6) := ty_inc h870 (by decide) (by omega) (by omega)
  refine lv_iinc (v := x869) (lv' := [(4, .int x869), (3, .ref q25), (2, .ref q12), (1, .ref q1), (0, .ref b)]) hx hb dL_law_1047 hl (k := 0) rfl h870.symm (by decide) rfl (fun ls hl => ?_)
  refine lv_goto (tgt := 23) hx hb dL_law_1050 (by decide) ?_
  have hk872 : u864 4 0 = g 4 0 := hf868 4 0 (by decide) (by decide) (by decide) (by decide)
  exact ih x869 Γ u864 (kc) (ks) _ _ ls (by omega) (by omega) (by rw [hf868 1 0 (by decide) (by decide) (by decide) (by decide), hf868 33 0 (by decide) (by decide) (by decide) (by decide)]; exact hi1) (by rw [hf868 2 0 (by decide) (by decide) (by decide) (by decide), hf868 34 0 (by decide) (by decide) (by decide) (by decide)]; exact hi2) (by rw [hf868 3 0 (by decide) (by decide) (by decide) (by decide), hf868 35 0 (by decide) (by decide) (by decide) (by decide)]; exact hi3) (by rw [hf868 5 0 (by decide) (by decide) (by decide) (by decide)]; exact hi4) (by omega) (by rw [hf868 6 0 (by decide) (by decide) (by decide) (by decide)]; exact hi6) (by rw [hf868 7 0 (by decide) (by decide) (by decide) (by decide), hf868 36 0 (by decide) (by decide) (by decide) (by decide)]; exact hi7) (by rw [hf868 101 0 (by decide) (by decide) (by decide) (by decide), hf868 1 0 (by decide) (by decide) (by decide) (by decide)]; exact hi8) (by rw [hf868 104 0 (by decide) (by decide) (by decide) (by decide), hf868 2 0 (by decide) (by decide) (by decide) (by decide)]; exact hi9) (by rw [hf868 112 0 (by decide) (by decide) (by decide) (by decide), hf868 5 0 (by decide) (by decide) (by decide) (by decide)]; exact hi10) (by rw [hf868 111 0 (by decide) (by decide) (by decide) (by decide), hf868 4 0 (by decide) (by decide) (by decide) (by decide)]; exact hi11) (by rw [hf868 114 0 (by decide) (by decide) (by decide) (by decide), hf868 6 0 (by decide) (by decide) (by decide) (by decide)]; exact hi12) (by rw [hf868 126 0 (by decide) (by decide) (by decide) (by decide)]; exact hi13) (by rw [hf868 122 0 (by decide) (by decide) (by decide) (by decide)]; exact hi14) (by (repeat (first | with_reducible assumption | (refine IJ_c (by decide) (by decide) (by decide) ?_) | (refine IJ_take (by omega) (by omega) ?_) | (refine IJ_how (by omega) ?_) | (refine IJ_by (by omega) ?_)))) hU t_q1 t_q12 t_q25 (by omega) (by omega) hG hS (lv_sub hl [0, 1, 2, 3, 4] rfl)
