set_option maxHeartbeats 40000000 in
set_option maxRecDepth 100000 in
/-- the law's case 8 -/
theorem law_c8 {p : Program} {e : Env} {s : State} {m : MethodId} {below : List Frame} {meth : Method} {c : Code} (l : Launch) (hl9 : l.stackTraces = false) {b L : Nat} {xs : Nat → Int32} (hLN : L ≤ 3072) (hx : p.tables.exec = Jvm.exec) (hb : c.code = code) (hr : meth.sig.returnType = ret) (hml : c.maxLocals = 7) (hown : s.vm.findClass R_law = some m.cls) (hA : ∀ w ∈ AL, w.before #[Value.ref b] s = true) (hXs : va_X b L xs s s.heap) (hbl : b < s.heap.size) (hlocks : meth.locks = false) {dC : Nat → ClassId} {dI : Nat → Nat → Nat} {dA : Nat → ClassId} {sz : Nat} (hE : en dC dI dA sz s) (hsz : sz = s.heap.size) (hbA : ¬ ty_A sz b) (X : va_W) (q1 q13 q29 : Nat) (n : Nat) (ih : LJ p l e s m below meth c b dC dI dA sz X q1 q13 q29 n) (i : Int32) (Γ : ty_G) (g : gh) (kc ks : Nat) (H : Heap) (locs : List Loc) (ls : Array Slot) (hm : (3073 - i.toInt : Int) < (n + 1 : Nat)) (hi0 : 0 ≤ i.toInt ∧ i.toInt ≤ 3072) (hy4 : g 4 0 ≤ i.toInt) (hRL : RLA g) (hIJ : IJ g) (hBd : Bd Γ g) (hU : Un Γ) (t_q1 : ty Γ q1 1) (t_q13 : ty Γ q13 30) (t_q29 : ty Γ q29 25) (hkc : kc ≤ 300 + i.toInt.toNat) (hks : ks ≤ 30000 + 28 * i.toInt.toNat) (hG : ty_ok (dC, dI) vwCl Γ (TP dA Γ g) sz X H) (hS : va_S (ty_A sz) s.heap H locs) (hl : lv_has ls 7 [(4, .int i), (3, .ref q29), (2, .ref q13), (1, .ref q1), (0, .ref b)]) (hiL : i.toInt + 6 ≤ (L : Int)) : W p l e room_1 s m #[Value.ref b] below meth c H locs kc ks (lw_Z below #[Value.ref b] s) (F0 m 424 ls []) := by
  refine lv_aload_n hx hb dL_law_424 rfl (lv_at hl 3 rfl) ?_
  refine lv_aload_n hx hb dL_law_425 rfl (lv_at hl 4 rfl) ?_
  refine lv_iload hx hb dL_law_426 (lv_at hl 0 rfl) ?_
  refine ty_iconst hx hb (1) dL_law_428 (by decide) (fun x421 h422 => ?_)
  refine ty_iadd hx hb dL_law_429 (fun x423 h424 => ?_)
  have h425 := lw_ix (k := 1) h422 h424 hi0 hiL hLN (by decide)
  refine va_sld hx hb hXs hbl hbA hS (i := x423) (ty_ix h425.2) dL_law_430 ?_
  refine W.eq (g2 := F0 m 431 ls [.int (xs (i.toInt.toNat + 1)), .ref q1]) (by rw [lw_xs (xs := xs) h425.1 hi0.1]) ?_
  clear h425 h424 h422
  refine lv_topi (fun x426 s427 => ?_)
  refine lv_aload_n hx hb dL_law_431 rfl (lv_at hl 4 rfl) ?_
  refine lv_iload hx hb dL_law_432 (lv_at hl 0 rfl) ?_
  refine ty_iconst hx hb (2) dL_law_434 (by decide) (fun x428 h429 => ?_)
  refine ty_iadd hx hb dL_law_435 (fun x430 h431 => ?_)
  have h432 := lw_ix (k := 2) h429 h431 hi0 hiL hLN (by decide)
  refine va_sld hx hb hXs hbl hbA hS (i := x430) (ty_ix h432.2) dL_law_436 ?_
  refine W.eq (g2 := F0 m 437 ls [.int (xs (i.toInt.toNat + 2)), .int x426, .ref q1]) (by rw [lw_xs (xs := xs) h432.1 hi0.1]) ?_
  clear h432 h431 h429
  refine lv_topi (fun x433 s434 => ?_)
  refine lv_aload_n hx hb dL_law_437 rfl (lv_at hl 4 rfl) ?_
  refine lv_iload hx hb dL_law_438 (lv_at hl 0 rfl) ?_
  refine ty_iconst hx hb (3) dL_law_440 (by decide) (fun x435 h436 => ?_)
  refine ty_iadd hx hb dL_law_441 (fun x437 h438 => ?_)
  have h439 := lw_ix (k := 3) h436 h438 hi0 hiL hLN (by decide)
  refine va_sld hx hb hXs hbl hbA hS (i := x437) (ty_ix h439.2) dL_law_442 ?_
  refine W.eq (g2 := F0 m 443 ls [.int (xs (i.toInt.toNat + 3)), .int x433, .int x426, .ref q1]) (by rw [lw_xs (xs := xs) h439.1 hi0.1]) ?_
  clear h439 h438 h436
  refine lv_topi (fun x440 s441 => ?_)
  refine cIB (va_runV (C := RX8) (As := [.int x426, .int x433, .int x440]) (rest := []) ⟨hx, hb, hml, hown, hA⟩ (k_X8_give l dC dI dA sz X Γ hU g q1 t_q1 x426 x433 x440   (RL_1 hRL) (RL_2 hRL) (RL_3 hRL) (RL_5 hRL) (hBd)) ⟨callB_of 3 hA (al_A wd_3_4) rfl rfl rfl (hA _ wd_1_1) (hA _ wd_3_1) (by decide +kernel) ⟨Nat.le_of_ble_eq_true rfl, Nat.le_of_ble_eq_true rfl⟩, hA _ wd_3_2, hA _ wd_3_3⟩ ⟨bl, recv_X8 hE hG t_q1, fun U hU9 hW9 => ⟨rfl, by rw [hU9]; exact hG, hE.go hS hU9 hW9⟩⟩ rfl rfl hl.1 rfl (lv_room (Nat.le_of_ble_eq_true rfl)) dL_law_443 ⟨(Nat.le_trans (show kc + 1 ≤ 300000 by omega) (Nat.le_of_ble_eq_true rfl)), (Nat.le_trans (show ks + 10 ≤ 300000 by omega) (Nat.le_of_ble_eq_true rfl))⟩) hS (fun x444 u442 H locs w443 hG hS => ?_)
  obtain ⟨Γ445, g446⟩ := u442
  dsimp only at w443 hG
  obtain ⟨hx447, hU, hB451, hf448, hq452⟩ := w443
  have hX453 : ext Γ Γ445 := ext.trans ext.rf hx447
  replace t_q29 : ty Γ445 q29 25 := hx447.one t_q29 (by decide)
  replace t_q13 : ty Γ445 q13 30 := hx447.one t_q13 (by decide)
  replace t_q1 : ty Γ445 q1 1 := hx447.one t_q1 (by decide)
  replace hq452 := HD.mk hq452
  have hw454 : ∀ c, c ∉ ([3, 35, 45, 60, 61, 62, 63, 64, 65, 66, 67, 68] : List Nat) → g446 c = g c := fun c hc => funext fun j => hf448 c j (fun q => hc (by rw [q]; decide)) (fun q => hc (by rw [q]; decide)) (fun q => hc (by rw [q]; decide)) (fun q => hc (by rw [q]; decide)) (fun q => hc (by rw [q]; decide)) (fun q => hc (by rw [q]; decide)) (fun q => hc (by rw [q]; decide)) (fun q => hc (by rw [q]; decide)) (fun q => hc (by rw [q]; decide)) (fun q => hc (by rw [q]; decide)) (fun q => hc (by rw [q]; decide)) (fun q => hc (by rw [q]; decide))
  have hj455 : IJ g446 := IJ_e hIJ (hw454 126 (by decide)) (hw454 132 (by decide)) (hw454 134 (by decide))
  refine lv_pop hx hb dL_law_446 rfl ?_
  refine lv_aload_n hx hb dL_law_447 rfl (lv_at hl 2 rfl) ?_
  refine lv_aload_n hx hb dL_law_448 rfl (lv_at hl 4 rfl) ?_
  refine lv_iload hx hb dL_law_449 (lv_at hl 0 rfl) ?_
  refine ty_iconst hx hb (1) dL_law_451 (by decide) (fun x456 h457 => ?_)
  refine ty_iadd hx hb dL_law_452 (fun x458 h459 => ?_)
  have h460 := lw_ix (k := 1) h457 h459 hi0 hiL hLN (by decide)
  refine va_sld hx hb hXs hbl hbA hS (i := x458) (ty_ix h460.2) dL_law_453 ?_
  refine W.eq (g2 := F0 m 454 ls [.int (xs (i.toInt.toNat + 1)), .ref q13]) (by rw [lw_xs (xs := xs) h460.1 hi0.1]) ?_
  clear h460 h459 h457
  refine W.eq (g2 := F0 m 454 ls [.int x426, .ref q13]) (by rw [s427]) ?_
  refine lv_aload_n hx hb dL_law_454 rfl (lv_at hl 4 rfl) ?_
  refine lv_iload hx hb dL_law_455 (lv_at hl 0 rfl) ?_
  refine ty_iconst hx hb (2) dL_law_457 (by decide) (fun x461 h462 => ?_)
  refine ty_iadd hx hb dL_law_458 (fun x463 h464 => ?_)
  have h465 := lw_ix (k := 2) h462 h464 hi0 hiL hLN (by decide)
  refine va_sld hx hb hXs hbl hbA hS (i := x463) (ty_ix h465.2) dL_law_459 ?_
  refine W.eq (g2 := F0 m 460 ls [.int (xs (i.toInt.toNat + 2)), .int x426, .ref q13]) (by rw [lw_xs (xs := xs) h465.1 hi0.1]) ?_
  clear h465 h464 h462
  refine W.eq (g2 := F0 m 460 ls [.int x433, .int x426, .ref q13]) (by rw [s434]) ?_
  refine lv_aload_n hx hb dL_law_460 rfl (lv_at hl 4 rfl) ?_
  refine lv_iload hx hb dL_law_461 (lv_at hl 0 rfl) ?_
  refine ty_iconst hx hb (3) dL_law_463 (by decide) (fun x466 h467 => ?_)
  refine ty_iadd hx hb dL_law_464 (fun x468 h469 => ?_)
  have h470 := lw_ix (k := 3) h467 h469 hi0 hiL hLN (by decide)
  refine va_sld hx hb hXs hbl hbA hS (i := x468) (ty_ix h470.2) dL_law_465 ?_
  refine W.eq (g2 := F0 m 466 ls [.int (xs (i.toInt.toNat + 3)), .int x433, .int x426, .ref q13]) (by rw [lw_xs (xs := xs) h470.1 hi0.1]) ?_
  clear h470 h469 h467
  refine W.eq (g2 := F0 m 466 ls [.int x440, .int x433, .int x426, .ref q13]) (by rw [s441]) ?_
  refine cI (va_runV (C := RX9) (As := [.int x426, .int x433, .int x440]) (rest := []) ⟨hx, hb, hml, hown, hA⟩ (k_X9_give l dC dI dA sz X Γ445 hU g446 q13 t_q13 x426 x433 x440   (RM_101 hRL (hw454 101 (by decide))) (RM_104 hRL (hw454 104 (by decide))) (RM_126 hRL (hw454 126 (by decide))) (RM_122 hRL (hw454 122 (by decide))) (RM_112 hRL (hw454 112 (by decide))) (hj455)) ⟨callB_of 3 hA (al_A wd_5_124) rfl rfl rfl (hA _ wd_1_7) (hA _ wd_5_121) (by decide +kernel) ⟨Nat.le_of_ble_eq_true rfl, Nat.le_of_ble_eq_true rfl⟩, hA _ wd_5_122, hA _ wd_5_123⟩ ⟨bl, recv_X9 hE hG t_q13, fun U hU9 hW9 => ⟨rfl, by rw [hU9]; exact hG, hE.go hS hU9 hW9⟩⟩ rfl rfl hl.1 rfl (lv_room (Nat.le_of_ble_eq_true rfl)) dL_law_466 ⟨(Nat.le_trans (show (kc + 1) + 0 ≤ 300000 by omega) (Nat.le_of_ble_eq_true rfl)), (Nat.le_trans (show (ks + 10) + 0 ≤ 300000 by omega) (Nat.le_of_ble_eq_true rfl))⟩) hS (fun x473 u471 H locs w472 hG hS => ?_)
  obtain ⟨hf476, hq474, hq475⟩ := w472
  replace hq475 := HD.mk hq475
  have hw477 : ∀ c, c ∉ ([100, 126, 127, 128, 129, 130, 131, 132, 133, 134, 135] : List Nat) → u471 c = g446 c := fun c hc => funext fun j => hf476 c j (fun q => hc (by rw [q]; decide)) (fun q => hc (by rw [q]; decide)) (fun q => hc (by rw [q]; decide)) (fun q => hc (by rw [q]; decide)) (fun q => hc (by rw [q]; decide)) (fun q => hc (by rw [q]; decide)) (fun q => hc (by rw [q]; decide)) (fun q => hc (by rw [q]; decide)) (fun q => hc (by rw [q]; decide)) (fun q => hc (by rw [q]; decide)) (fun q => hc (by rw [q]; decide))
  have hst478 := st_give (g := g) (u1 := g446) (u2 := u471) (r1 := x444) (r2 := x473) hRL hw454 hw477 hq452.v hq475.v
  have hrr479 := hst478.2
  refine lv_pop hx hb dL_law_469 rfl ?_
  refine lv_goto (tgt := 1047) hx hb dL_law_470 (by decide) ?_
  obtain ⟨x480, h481⟩ : ∃ y : Int32, y = i + Int32.ofInt (6) := ⟨_, rfl⟩
  try have h482 : x480.toInt = i.toInt + (6) := ty_inc h481 (by decide) (by omega) (by omega)
  refine lv_iinc (v := x480) (lv' := [(4, .int x480), (3, .ref q29), (2, .ref q13), (1, .ref q1), (0, .ref b)]) hx hb dL_law_1047 hl (k := 0) rfl h481.symm (by decide) rfl (fun ls hl => ?_)
  refine lv_goto (tgt := 23) hx hb dL_law_1050 (by decide) ?_
  exact ih x480 Γ445 u471 ((kc + 1)) ((ks + 10)) _ _ ls (by omega) (by omega) (by have a9 := congrFun (hw477 4 (by decide)) 0; have b9 := congrFun (hw454 4 (by decide)) 0; omega) hst478.1 hq474 (Bd_e hB451 (hw477 33 (by decide)) (hw477 34 (by decide)) (hw477 35 (by decide))) hU t_q1 t_q13 t_q29 (by omega) (by omega) hG hS (lv_sub hl [0, 1, 2, 3, 4] rfl)
set_option maxHeartbeats 40000000 in
set_option maxRecDepth 100000 in
/-- the law's case 9 -/
theorem law_c9 {p : Program} {e : Env} {s : State} {m : MethodId} {below : List Frame} {meth : Method} {c : Code} (l : Launch) (hl9 : l.stackTraces = false) {b L : Nat} {xs : Nat → Int32} (hLN : L ≤ 3072) (hx : p.tables.exec = Jvm.exec) (hb : c.code = code) (hr : meth.sig.returnType = ret) (hml : c.maxLocals = 7) (hown : s.vm.findClass R_law = some m.cls) (hA : ∀ w ∈ AL, w.before #[Value.ref b] s = true) (hXs : va_X b L xs s s.heap) (hbl : b < s.heap.size) (hlocks : meth.locks = false) {dC : Nat → ClassId} {dI : Nat → Nat → Nat} {dA : Nat → ClassId} {sz : Nat} (hE : en dC dI dA sz s) (hsz : sz = s.heap.size) (hbA : ¬ ty_A sz b) (X : va_W) (q1 q13 q29 : Nat) (n : Nat) (ih : LJ p l e s m below meth c b dC dI dA sz X q1 q13 q29 n) (i : Int32) (Γ : ty_G) (g : gh) (kc ks : Nat) (H : Heap) (locs : List Loc) (ls : Array Slot) (hm : (3073 - i.toInt : Int) < (n + 1 : Nat)) (hi0 : 0 ≤ i.toInt ∧ i.toInt ≤ 3072) (hy4 : g 4 0 ≤ i.toInt) (hRL : RLA g) (hIJ : IJ g) (hBd : Bd Γ g) (hU : Un Γ) (t_q1 : ty Γ q1 1) (t_q13 : ty Γ q13 30) (t_q29 : ty Γ q29 25) (hkc : kc ≤ 300 + i.toInt.toNat) (hks : ks ≤ 30000 + 28 * i.toInt.toNat) (hG : ty_ok (dC, dI) vwCl Γ (TP dA Γ g) sz X H) (hS : va_S (ty_A sz) s.heap H locs) (hl : lv_has ls 7 [(4, .int i), (3, .ref q29), (2, .ref q13), (1, .ref q1), (0, .ref b)]) (hiL : i.toInt + 6 ≤ (L : Int)) : W p l e room_1 s m #[Value.ref b] below meth c H locs kc ks (lw_Z below #[Value.ref b] s) (F0 m 473 ls []) := by
  refine lv_aload_n hx hb dL_law_473 rfl (lv_at hl 3 rfl) ?_
  refine lv_aload_n hx hb dL_law_474 rfl (lv_at hl 4 rfl) ?_
  refine lv_iload hx hb dL_law_475 (lv_at hl 0 rfl) ?_
  refine ty_iconst hx hb (1) dL_law_477 (by decide) (fun x483 h484 => ?_)
  refine ty_iadd hx hb dL_law_478 (fun x485 h486 => ?_)
  have h487 := lw_ix (k := 1) h484 h486 hi0 hiL hLN (by decide)
  refine va_sld hx hb hXs hbl hbA hS (i := x485) (ty_ix h487.2) dL_law_479 ?_
  refine W.eq (g2 := F0 m 480 ls [.int (xs (i.toInt.toNat + 1)), .ref q1]) (by rw [lw_xs (xs := xs) h487.1 hi0.1]) ?_
  clear h487 h486 h484
  refine lv_topi (fun x488 s489 => ?_)
  refine lv_aload_n hx hb dL_law_480 rfl (lv_at hl 4 rfl) ?_
  refine lv_iload hx hb dL_law_481 (lv_at hl 0 rfl) ?_
  refine ty_iconst hx hb (2) dL_law_483 (by decide) (fun x490 h491 => ?_)
  refine ty_iadd hx hb dL_law_484 (fun x492 h493 => ?_)
  have h494 := lw_ix (k := 2) h491 h493 hi0 hiL hLN (by decide)
  refine va_sld hx hb hXs hbl hbA hS (i := x492) (ty_ix h494.2) dL_law_485 ?_
  refine W.eq (g2 := F0 m 486 ls [.int (xs (i.toInt.toNat + 2)), .int x488, .ref q1]) (by rw [lw_xs (xs := xs) h494.1 hi0.1]) ?_
  clear h494 h493 h491
  refine lv_topi (fun x495 s496 => ?_)
  refine lv_aload_n hx hb dL_law_486 rfl (lv_at hl 4 rfl) ?_
  refine lv_iload hx hb dL_law_487 (lv_at hl 0 rfl) ?_
  refine ty_iconst hx hb (3) dL_law_489 (by decide) (fun x497 h498 => ?_)
  refine ty_iadd hx hb dL_law_490 (fun x499 h500 => ?_)
  have h501 := lw_ix (k := 3) h498 h500 hi0 hiL hLN (by decide)
  refine va_sld hx hb hXs hbl hbA hS (i := x499) (ty_ix h501.2) dL_law_491 ?_
  refine W.eq (g2 := F0 m 492 ls [.int (xs (i.toInt.toNat + 3)), .int x495, .int x488, .ref q1]) (by rw [lw_xs (xs := xs) h501.1 hi0.1]) ?_
  clear h501 h500 h498
  refine lv_topi (fun x502 s503 => ?_)
  refine lv_aload_n hx hb dL_law_492 rfl (lv_at hl 4 rfl) ?_
  refine lv_iload hx hb dL_law_493 (lv_at hl 0 rfl) ?_
  refine ty_iconst hx hb (4) dL_law_495 (by decide) (fun x504 h505 => ?_)
  refine ty_iadd hx hb dL_law_496 (fun x506 h507 => ?_)
  have h508 := lw_ix (k := 4) h505 h507 hi0 hiL hLN (by decide)
  refine va_sld hx hb hXs hbl hbA hS (i := x506) (ty_ix h508.2) dL_law_497 ?_
  refine W.eq (g2 := F0 m 498 ls [.int (xs (i.toInt.toNat + 4)), .int x502, .int x495, .int x488, .ref q1]) (by rw [lw_xs (xs := xs) h508.1 hi0.1]) ?_
  clear h508 h507 h505
  refine lv_topi (fun x509 s510 => ?_)
  refine lv_aload_n hx hb dL_law_498 rfl (lv_at hl 4 rfl) ?_
  refine lv_iload hx hb dL_law_499 (lv_at hl 0 rfl) ?_
  refine ty_iconst hx hb (5) dL_law_501 (by decide) (fun x511 h512 => ?_)
  refine ty_iadd hx hb dL_law_502 (fun x513 h514 => ?_)
  have h515 := lw_ix (k := 5) h512 h514 hi0 hiL hLN (by decide)
  refine va_sld hx hb hXs hbl hbA hS (i := x513) (ty_ix h515.2) dL_law_503 ?_
  refine W.eq (g2 := F0 m 504 ls [.int (xs (i.toInt.toNat + 5)), .int x509, .int x502, .int x495, .int x488, .ref q1]) (by rw [lw_xs (xs := xs) h515.1 hi0.1]) ?_
  clear h515 h514 h512
  refine lv_topi (fun x516 s517 => ?_)
  refine cIB (va_runV (C := RX8) (As := [.int x488, .int x495, .int x502, .int x509, .int x516]) (rest := []) ⟨hx, hb, hml, hown, hA⟩ (k_X8_wish l dC dI dA sz X Γ hU g q1 t_q1 x488 x495 x502 x509 x516   (RL_3 hRL) (hBd)) ⟨callB_of 5 hA (al_A wd_3_68) rfl rfl rfl (hA _ wd_1_1) (hA _ wd_3_65) (by decide +kernel) ⟨Nat.le_of_ble_eq_true rfl, Nat.le_of_ble_eq_true rfl⟩, hA _ wd_3_66, hA _ wd_3_67⟩ ⟨bl, recv_X8 hE hG t_q1, fun U hU9 hW9 => ⟨rfl, by rw [hU9]; exact hG, hE.go hS hU9 hW9⟩⟩ rfl rfl hl.1 rfl (lv_room (Nat.le_of_ble_eq_true rfl)) dL_law_504 ⟨(Nat.le_trans (show kc + 1 ≤ 300000 by omega) (Nat.le_of_ble_eq_true rfl)), (Nat.le_trans (show ks + 4 ≤ 300000 by omega) (Nat.le_of_ble_eq_true rfl))⟩) hS (fun x520 u518 H locs w519 hG hS => ?_)
  obtain ⟨Γ521, g522⟩ := u518
  dsimp only at w519 hG
  obtain ⟨hx523, hU, hB527, hf524, hq528⟩ := w519
  have hX529 : ext Γ Γ521 := ext.trans ext.rf hx523
  replace t_q29 : ty Γ521 q29 25 := hx523.one t_q29 (by decide)
  replace t_q13 : ty Γ521 q13 30 := hx523.one t_q13 (by decide)
  replace t_q1 : ty Γ521 q1 1 := hx523.one t_q1 (by decide)
  replace hq528 := HD.mk hq528
  have hw530 : ∀ c, c ∉ ([66] : List Nat) → g522 c = g c := fun c hc => funext fun j => hf524 c j (fun q => hc (by rw [q]; decide))
  have hj531 : IJ g522 := IJ_e hIJ (hw530 126 (by decide)) (hw530 132 (by decide)) (hw530 134 (by decide))
  refine lv_pop hx hb dL_law_507 rfl ?_
  refine lv_aload_n hx hb dL_law_508 rfl (lv_at hl 2 rfl) ?_
  refine lv_aload_n hx hb dL_law_509 rfl (lv_at hl 4 rfl) ?_
  refine lv_iload hx hb dL_law_510 (lv_at hl 0 rfl) ?_
  refine ty_iconst hx hb (1) dL_law_512 (by decide) (fun x532 h533 => ?_)
  refine ty_iadd hx hb dL_law_513 (fun x534 h535 => ?_)
  have h536 := lw_ix (k := 1) h533 h535 hi0 hiL hLN (by decide)
  refine va_sld hx hb hXs hbl hbA hS (i := x534) (ty_ix h536.2) dL_law_514 ?_
  refine W.eq (g2 := F0 m 515 ls [.int (xs (i.toInt.toNat + 1)), .ref q13]) (by rw [lw_xs (xs := xs) h536.1 hi0.1]) ?_
  clear h536 h535 h533
  refine W.eq (g2 := F0 m 515 ls [.int x488, .ref q13]) (by rw [s489]) ?_
  refine lv_aload_n hx hb dL_law_515 rfl (lv_at hl 4 rfl) ?_
  refine lv_iload hx hb dL_law_516 (lv_at hl 0 rfl) ?_
  refine ty_iconst hx hb (2) dL_law_518 (by decide) (fun x537 h538 => ?_)
  refine ty_iadd hx hb dL_law_519 (fun x539 h540 => ?_)
  have h541 := lw_ix (k := 2) h538 h540 hi0 hiL hLN (by decide)
  refine va_sld hx hb hXs hbl hbA hS (i := x539) (ty_ix h541.2) dL_law_520 ?_
  refine W.eq (g2 := F0 m 521 ls [.int (xs (i.toInt.toNat + 2)), .int x488, .ref q13]) (by rw [lw_xs (xs := xs) h541.1 hi0.1]) ?_
  clear h541 h540 h538
  refine W.eq (g2 := F0 m 521 ls [.int x495, .int x488, .ref q13]) (by rw [s496]) ?_
  refine lv_aload_n hx hb dL_law_521 rfl (lv_at hl 4 rfl) ?_
  refine lv_iload hx hb dL_law_522 (lv_at hl 0 rfl) ?_
  refine ty_iconst hx hb (3) dL_law_524 (by decide) (fun x542 h543 => ?_)
  refine ty_iadd hx hb dL_law_525 (fun x544 h545 => ?_)
  have h546 := lw_ix (k := 3) h543 h545 hi0 hiL hLN (by decide)
  refine va_sld hx hb hXs hbl hbA hS (i := x544) (ty_ix h546.2) dL_law_526 ?_
  refine W.eq (g2 := F0 m 527 ls [.int (xs (i.toInt.toNat + 3)), .int x495, .int x488, .ref q13]) (by rw [lw_xs (xs := xs) h546.1 hi0.1]) ?_
  clear h546 h545 h543
  refine W.eq (g2 := F0 m 527 ls [.int x502, .int x495, .int x488, .ref q13]) (by rw [s503]) ?_
  refine lv_aload_n hx hb dL_law_527 rfl (lv_at hl 4 rfl) ?_
  refine lv_iload hx hb dL_law_528 (lv_at hl 0 rfl) ?_
  refine ty_iconst hx hb (4) dL_law_530 (by decide) (fun x547 h548 => ?_)
  refine ty_iadd hx hb dL_law_531 (fun x549 h550 => ?_)
  have h551 := lw_ix (k := 4) h548 h550 hi0 hiL hLN (by decide)
  refine va_sld hx hb hXs hbl hbA hS (i := x549) (ty_ix h551.2) dL_law_532 ?_
  refine W.eq (g2 := F0 m 533 ls [.int (xs (i.toInt.toNat + 4)), .int x502, .int x495, .int x488, .ref q13]) (by rw [lw_xs (xs := xs) h551.1 hi0.1]) ?_
  clear h551 h550 h548
  refine W.eq (g2 := F0 m 533 ls [.int x509, .int x502, .int x495, .int x488, .ref q13]) (by rw [s510]) ?_
  refine lv_aload_n hx hb dL_law_533 rfl (lv_at hl 4 rfl) ?_
  refine lv_iload hx hb dL_law_534 (lv_at hl 0 rfl) ?_
  refine ty_iconst hx hb (5) dL_law_536 (by decide) (fun x552 h553 => ?_)
  refine ty_iadd hx hb dL_law_537 (fun x554 h555 => ?_)
  have h556 := lw_ix (k := 5) h553 h555 hi0 hiL hLN (by decide)
  refine va_sld hx hb hXs hbl hbA hS (i := x554) (ty_ix h556.2) dL_law_538 ?_
  refine W.eq (g2 := F0 m 539 ls [.int (xs (i.toInt.toNat + 5)), .int x509, .int x502, .int x495, .int x488, .ref q13]) (by rw [lw_xs (xs := xs) h556.1 hi0.1]) ?_
  clear h556 h555 h553
  refine W.eq (g2 := F0 m 539 ls [.int x516, .int x509, .int x502, .int x495, .int x488, .ref q13]) (by rw [s517]) ?_
  refine cI (va_runV (C := RX9) (As := [.int x488, .int x495, .int x502, .int x509, .int x516]) (rest := []) ⟨hx, hb, hml, hown, hA⟩ (k_X9_wish l dC dI dA sz X Γ521 hU g522 q13 t_q13 x488 x495 x502 x509 x516   (RM_126 hRL (hw530 126 (by decide)))) ⟨callB_of 5 hA (al_A wd_5_132) rfl rfl rfl (hA _ wd_1_7) (hA _ wd_5_129) (by decide +kernel) ⟨Nat.le_of_ble_eq_true rfl, Nat.le_of_ble_eq_true rfl⟩, hA _ wd_5_130, hA _ wd_5_131⟩ ⟨bl, recv_X9 hE hG t_q13, fun U hU9 hW9 => ⟨rfl, by rw [hU9]; exact hG, hE.go hS hU9 hW9⟩⟩ rfl rfl hl.1 rfl (lv_room (Nat.le_of_ble_eq_true rfl)) dL_law_539 ⟨(Nat.le_trans (show (kc + 1) + 0 ≤ 300000 by omega) (Nat.le_of_ble_eq_true rfl)), (Nat.le_trans (show (ks + 4) + 0 ≤ 300000 by omega) (Nat.le_of_ble_eq_true rfl))⟩) hS (fun x559 u557 H locs w558 hG hS => ?_)
  obtain ⟨hf561, hq560⟩ := w558
  replace hq560 := HD.mk hq560
  have hw562 : ∀ c, c ∉ ([100, 135] : List Nat) → u557 c = g522 c := fun c hc => funext fun j => hf561 c j (fun q => hc (by rw [q]; decide)) (fun q => hc (by rw [q]; decide))
  have hst563 := st_wish (g := g) (u1 := g522) (u2 := u557) (r1 := x520) (r2 := x559) hRL hw530 hw562 hq528.v hq560.v
  have hrr564 := hst563.2
  refine lv_pop hx hb dL_law_542 rfl ?_
  refine lv_goto (tgt := 1047) hx hb dL_law_543 (by decide) ?_
  obtain ⟨x565, h566⟩ : ∃ y : Int32, y = i + Int32.ofInt (6) := ⟨_, rfl⟩
  try have h567 : x565.toInt = i.toInt + (6) := ty_inc h566 (by decide) (by omega) (by omega)
  refine lv_iinc (v := x565) (lv' := [(4, .int x565), (3, .ref q29), (2, .ref q13), (1, .ref q1), (0, .ref b)]) hx hb dL_law_1047 hl (k := 0) rfl h566.symm (by decide) rfl (fun ls hl => ?_)
  refine lv_goto (tgt := 23) hx hb dL_law_1050 (by decide) ?_
  exact ih x565 Γ521 u557 ((kc + 1)) ((ks + 4)) _ _ ls (by omega) (by omega) (by have a9 := congrFun (hw562 4 (by decide)) 0; have b9 := congrFun (hw530 4 (by decide)) 0; omega) hst563.1 (IJ_e hj531 (hw562 126 (by decide)) (hw562 132 (by decide)) (hw562 134 (by decide))) (Bd_e hB527 (hw562 33 (by decide)) (hw562 34 (by decide)) (hw562 35 (by decide))) hU t_q1 t_q13 t_q29 (by omega) (by omega) hG hS (lv_sub hl [0, 1, 2, 3, 4] rfl)
set_option maxHeartbeats 40000000 in
set_option maxRecDepth 100000 in
/-- the law's case 10 -/
theorem law_c10 {p : Program} {e : Env} {s : State} {m : MethodId} {below : List Frame} {meth : Method} {c : Code} (l : Launch) (hl9 : l.stackTraces = false) {b L : Nat} {xs : Nat → Int32} (hLN : L ≤ 3072) (hx : p.tables.exec = Jvm.exec) (hb : c.code = code) (hr : meth.sig.returnType = ret) (hml : c.maxLocals = 7) (hown : s.vm.findClass R_law = some m.cls) (hA : ∀ w ∈ AL, w.before #[Value.ref b] s = true) (hXs : va_X b L xs s s.heap) (hbl : b < s.heap.size) (hlocks : meth.locks = false) {dC : Nat → ClassId} {dI : Nat → Nat → Nat} {dA : Nat → ClassId} {sz : Nat} (hE : en dC dI dA sz s) (hsz : sz = s.heap.size) (hbA : ¬ ty_A sz b) (X : va_W) (q1 q13 q29 : Nat) (n : Nat) (ih : LJ p l e s m below meth c b dC dI dA sz X q1 q13 q29 n) (i : Int32) (Γ : ty_G) (g : gh) (kc ks : Nat) (H : Heap) (locs : List Loc) (ls : Array Slot) (hm : (3073 - i.toInt : Int) < (n + 1 : Nat)) (hi0 : 0 ≤ i.toInt ∧ i.toInt ≤ 3072) (hy4 : g 4 0 ≤ i.toInt) (hRL : RLA g) (hIJ : IJ g) (hBd : Bd Γ g) (hU : Un Γ) (t_q1 : ty Γ q1 1) (t_q13 : ty Γ q13 30) (t_q29 : ty Γ q29 25) (hkc : kc ≤ 300 + i.toInt.toNat) (hks : ks ≤ 30000 + 28 * i.toInt.toNat) (hG : ty_ok (dC, dI) vwCl Γ (TP dA Γ g) sz X H) (hS : va_S (ty_A sz) s.heap H locs) (hl : lv_has ls 7 [(4, .int i), (3, .ref q29), (2, .ref q13), (1, .ref q1), (0, .ref b)]) (hiL : i.toInt + 6 ≤ (L : Int)) : W p l e room_1 s m #[Value.ref b] below meth c H locs kc ks (lw_Z below #[Value.ref b] s) (F0 m 546 ls []) := by
  refine lv_aload_n hx hb dL_law_546 rfl (lv_at hl 3 rfl) ?_
  refine lv_aload_n hx hb dL_law_547 rfl (lv_at hl 4 rfl) ?_
  refine lv_iload hx hb dL_law_548 (lv_at hl 0 rfl) ?_
  refine ty_iconst hx hb (1) dL_law_550 (by decide) (fun x568 h569 => ?_)
  refine ty_iadd hx hb dL_law_551 (fun x570 h571 => ?_)
  have h572 := lw_ix (k := 1) h569 h571 hi0 hiL hLN (by decide)
  refine va_sld hx hb hXs hbl hbA hS (i := x570) (ty_ix h572.2) dL_law_552 ?_
  refine W.eq (g2 := F0 m 553 ls [.int (xs (i.toInt.toNat + 1)), .ref q1]) (by rw [lw_xs (xs := xs) h572.1 hi0.1]) ?_
  clear h572 h571 h569
  refine lv_topi (fun x573 s574 => ?_)
  refine lv_aload_n hx hb dL_law_553 rfl (lv_at hl 4 rfl) ?_
  refine lv_iload hx hb dL_law_554 (lv_at hl 0 rfl) ?_
  refine ty_iconst hx hb (2) dL_law_556 (by decide) (fun x575 h576 => ?_)
  refine ty_iadd hx hb dL_law_557 (fun x577 h578 => ?_)
  have h579 := lw_ix (k := 2) h576 h578 hi0 hiL hLN (by decide)
  refine va_sld hx hb hXs hbl hbA hS (i := x577) (ty_ix h579.2) dL_law_558 ?_
  refine W.eq (g2 := F0 m 559 ls [.int (xs (i.toInt.toNat + 2)), .int x573, .ref q1]) (by rw [lw_xs (xs := xs) h579.1 hi0.1]) ?_
  clear h579 h578 h576
  refine lv_topi (fun x580 s581 => ?_)
  refine lv_aload_n hx hb dL_law_559 rfl (lv_at hl 4 rfl) ?_
  refine lv_iload hx hb dL_law_560 (lv_at hl 0 rfl) ?_
  refine ty_iconst hx hb (3) dL_law_562 (by decide) (fun x582 h583 => ?_)
  refine ty_iadd hx hb dL_law_563 (fun x584 h585 => ?_)
  have h586 := lw_ix (k := 3) h583 h585 hi0 hiL hLN (by decide)
  refine va_sld hx hb hXs hbl hbA hS (i := x584) (ty_ix h586.2) dL_law_564 ?_
  refine W.eq (g2 := F0 m 565 ls [.int (xs (i.toInt.toNat + 3)), .int x580, .int x573, .ref q1]) (by rw [lw_xs (xs := xs) h586.1 hi0.1]) ?_
  clear h586 h585 h583
  refine lv_topi (fun x587 s588 => ?_)
  refine lv_aload_n hx hb dL_law_565 rfl (lv_at hl 4 rfl) ?_
  refine lv_iload hx hb dL_law_566 (lv_at hl 0 rfl) ?_
  refine ty_iconst hx hb (4) dL_law_568 (by decide) (fun x589 h590 => ?_)
  refine ty_iadd hx hb dL_law_569 (fun x591 h592 => ?_)
  have h593 := lw_ix (k := 4) h590 h592 hi0 hiL hLN (by decide)
  refine va_sld hx hb hXs hbl hbA hS (i := x591) (ty_ix h593.2) dL_law_570 ?_
  refine W.eq (g2 := F0 m 571 ls [.int (xs (i.toInt.toNat + 4)), .int x587, .int x580, .int x573, .ref q1]) (by rw [lw_xs (xs := xs) h593.1 hi0.1]) ?_
  clear h593 h592 h590
  refine lv_topi (fun x594 s595 => ?_)
  refine lv_aload_n hx hb dL_law_571 rfl (lv_at hl 4 rfl) ?_
  refine lv_iload hx hb dL_law_572 (lv_at hl 0 rfl) ?_
  refine ty_iconst hx hb (5) dL_law_574 (by decide) (fun x596 h597 => ?_)
  refine ty_iadd hx hb dL_law_575 (fun x598 h599 => ?_)
  have h600 := lw_ix (k := 5) h597 h599 hi0 hiL hLN (by decide)
  refine va_sld hx hb hXs hbl hbA hS (i := x598) (ty_ix h600.2) dL_law_576 ?_
  refine W.eq (g2 := F0 m 577 ls [.int (xs (i.toInt.toNat + 5)), .int x594, .int x587, .int x580, .int x573, .ref q1]) (by rw [lw_xs (xs := xs) h600.1 hi0.1]) ?_
  clear h600 h599 h597
  refine lv_topi (fun x601 s602 => ?_)
  refine cIB (va_runV (C := RX8) (As := [.int x573, .int x580, .int x587, .int x594, .int x601]) (rest := []) ⟨hx, hb, hml, hown, hA⟩ (k_X8_rushWish l dC dI dA sz X Γ hU g q1 t_q1 x573 x580 x587 x594 x601   (RL_2 hRL) (hBd)) ⟨callB_of 5 hA (al_A wd_3_106) rfl rfl rfl (hA _ wd_1_1) (hA _ wd_3_103) (by decide +kernel) ⟨Nat.le_of_ble_eq_true rfl, Nat.le_of_ble_eq_true rfl⟩, hA _ wd_3_104, hA _ wd_3_105⟩ ⟨bl, recv_X8 hE hG t_q1, fun U hU9 hW9 => ⟨rfl, by rw [hU9]; exact hG, hE.go hS hU9 hW9⟩⟩ rfl rfl hl.1 rfl (lv_room (Nat.le_of_ble_eq_true rfl)) dL_law_577 ⟨(Nat.le_trans (show kc + 1 ≤ 300000 by omega) (Nat.le_of_ble_eq_true rfl)), (Nat.le_trans (show ks + 4 ≤ 300000 by omega) (Nat.le_of_ble_eq_true rfl))⟩) hS (fun x605 u603 H locs w604 hG hS => ?_)
  obtain ⟨Γ606, g607⟩ := u603
  dsimp only at w604 hG
  obtain ⟨hx608, hU, hB612, hf609, hq613⟩ := w604
  have hX614 : ext Γ Γ606 := ext.trans ext.rf hx608
  replace t_q29 : ty Γ606 q29 25 := hx608.one t_q29 (by decide)
  replace t_q13 : ty Γ606 q13 30 := hx608.one t_q13 (by decide)
  replace t_q1 : ty Γ606 q1 1 := hx608.one t_q1 (by decide)
  replace hq613 := HD.mk hq613
  have hw615 : ∀ c, c ∉ ([56] : List Nat) → g607 c = g c := fun c hc => funext fun j => hf609 c j (fun q => hc (by rw [q]; decide))
  have hj616 : IJ g607 := IJ_e hIJ (hw615 126 (by decide)) (hw615 132 (by decide)) (hw615 134 (by decide))
  refine lv_pop hx hb dL_law_580 rfl ?_
  refine lv_aload_n hx hb dL_law_581 rfl (lv_at hl 2 rfl) ?_
  refine lv_aload_n hx hb dL_law_582 rfl (lv_at hl 4 rfl) ?_
  refine lv_iload hx hb dL_law_583 (lv_at hl 0 rfl) ?_
  refine ty_iconst hx hb (1) dL_law_585 (by decide) (fun x617 h618 => ?_)
  refine ty_iadd hx hb dL_law_586 (fun x619 h620 => ?_)
  have h621 := lw_ix (k := 1) h618 h620 hi0 hiL hLN (by decide)
  refine va_sld hx hb hXs hbl hbA hS (i := x619) (ty_ix h621.2) dL_law_587 ?_
  refine W.eq (g2 := F0 m 588 ls [.int (xs (i.toInt.toNat + 1)), .ref q13]) (by rw [lw_xs (xs := xs) h621.1 hi0.1]) ?_
  clear h621 h620 h618
  refine W.eq (g2 := F0 m 588 ls [.int x573, .ref q13]) (by rw [s574]) ?_
  refine lv_aload_n hx hb dL_law_588 rfl (lv_at hl 4 rfl) ?_
  refine lv_iload hx hb dL_law_589 (lv_at hl 0 rfl) ?_
  refine ty_iconst hx hb (2) dL_law_591 (by decide) (fun x622 h623 => ?_)
  refine ty_iadd hx hb dL_law_592 (fun x624 h625 => ?_)
  have h626 := lw_ix (k := 2) h623 h625 hi0 hiL hLN (by decide)
  refine va_sld hx hb hXs hbl hbA hS (i := x624) (ty_ix h626.2) dL_law_593 ?_
  refine W.eq (g2 := F0 m 594 ls [.int (xs (i.toInt.toNat + 2)), .int x573, .ref q13]) (by rw [lw_xs (xs := xs) h626.1 hi0.1]) ?_
  clear h626 h625 h623
  refine W.eq (g2 := F0 m 594 ls [.int x580, .int x573, .ref q13]) (by rw [s581]) ?_
  refine lv_aload_n hx hb dL_law_594 rfl (lv_at hl 4 rfl) ?_
  refine lv_iload hx hb dL_law_595 (lv_at hl 0 rfl) ?_
  refine ty_iconst hx hb (3) dL_law_597 (by decide) (fun x627 h628 => ?_)
  refine ty_iadd hx hb dL_law_598 (fun x629 h630 => ?_)
  have h631 := lw_ix (k := 3) h628 h630 hi0 hiL hLN (by decide)
  refine va_sld hx hb hXs hbl hbA hS (i := x629) (ty_ix h631.2) dL_law_599 ?_
  refine W.eq (g2 := F0 m 600 ls [.int (xs (i.toInt.toNat + 3)), .int x580, .int x573, .ref q13]) (by rw [lw_xs (xs := xs) h631.1 hi0.1]) ?_
  clear h631 h630 h628
  refine W.eq (g2 := F0 m 600 ls [.int x587, .int x580, .int x573, .ref q13]) (by rw [s588]) ?_
  refine lv_aload_n hx hb dL_law_600 rfl (lv_at hl 4 rfl) ?_
  refine lv_iload hx hb dL_law_601 (lv_at hl 0 rfl) ?_
  refine ty_iconst hx hb (4) dL_law_603 (by decide) (fun x632 h633 => ?_)
  refine ty_iadd hx hb dL_law_604 (fun x634 h635 => ?_)
  have h636 := lw_ix (k := 4) h633 h635 hi0 hiL hLN (by decide)
  refine va_sld hx hb hXs hbl hbA hS (i := x634) (ty_ix h636.2) dL_law_605 ?_
  refine W.eq (g2 := F0 m 606 ls [.int (xs (i.toInt.toNat + 4)), .int x587, .int x580, .int x573, .ref q13]) (by rw [lw_xs (xs := xs) h636.1 hi0.1]) ?_
  clear h636 h635 h633
  refine W.eq (g2 := F0 m 606 ls [.int x594, .int x587, .int x580, .int x573, .ref q13]) (by rw [s595]) ?_
  refine lv_aload_n hx hb dL_law_606 rfl (lv_at hl 4 rfl) ?_
  refine lv_iload hx hb dL_law_607 (lv_at hl 0 rfl) ?_
  refine ty_iconst hx hb (5) dL_law_609 (by decide) (fun x637 h638 => ?_)
  refine ty_iadd hx hb dL_law_610 (fun x639 h640 => ?_)
  have h641 := lw_ix (k := 5) h638 h640 hi0 hiL hLN (by decide)
  refine va_sld hx hb hXs hbl hbA hS (i := x639) (ty_ix h641.2) dL_law_611 ?_
  refine W.eq (g2 := F0 m 612 ls [.int (xs (i.toInt.toNat + 5)), .int x594, .int x587, .int x580, .int x573, .ref q13]) (by rw [lw_xs (xs := xs) h641.1 hi0.1]) ?_
  clear h641 h640 h638
  refine W.eq (g2 := F0 m 612 ls [.int x601, .int x594, .int x587, .int x580, .int x573, .ref q13]) (by rw [s602]) ?_
  refine cI (va_runV (C := RX9) (As := [.int x573, .int x580, .int x587, .int x594, .int x601]) (rest := []) ⟨hx, hb, hml, hown, hA⟩ (k_X9_rushWish l dC dI dA sz X Γ606 hU g607 q13 t_q13 x573 x580 x587 x594 x601   (RM_104 hRL (hw615 104 (by decide)))) ⟨callB_of 5 hA (al_A wd_5_144) rfl rfl rfl (hA _ wd_1_7) (hA _ wd_5_141) (by decide +kernel) ⟨Nat.le_of_ble_eq_true rfl, Nat.le_of_ble_eq_true rfl⟩, hA _ wd_5_142, hA _ wd_5_143⟩ ⟨bl, recv_X9 hE hG t_q13, fun U hU9 hW9 => ⟨rfl, by rw [hU9]; exact hG, hE.go hS hU9 hW9⟩⟩ rfl rfl hl.1 rfl (lv_room (Nat.le_of_ble_eq_true rfl)) dL_law_612 ⟨(Nat.le_trans (show (kc + 1) + 0 ≤ 300000 by omega) (Nat.le_of_ble_eq_true rfl)), (Nat.le_trans (show (ks + 4) + 0 ≤ 300000 by omega) (Nat.le_of_ble_eq_true rfl))⟩) hS (fun x644 u642 H locs w643 hG hS => ?_)
  obtain ⟨hf646, hq645⟩ := w643
  replace hq645 := HD.mk hq645
  have hw647 : ∀ c, c ∉ ([100, 135] : List Nat) → u642 c = g607 c := fun c hc => funext fun j => hf646 c j (fun q => hc (by rw [q]; decide)) (fun q => hc (by rw [q]; decide))
  have hst648 := st_rushWish (g := g) (u1 := g607) (u2 := u642) (r1 := x605) (r2 := x644) hRL hw615 hw647 hq613.v hq645.v
  have hrr649 := hst648.2
  refine lv_pop hx hb dL_law_615 rfl ?_
  refine lv_goto (tgt := 1047) hx hb dL_law_616 (by decide) ?_
  obtain ⟨x650, h651⟩ : ∃ y : Int32, y = i + Int32.ofInt (6) := ⟨_, rfl⟩
  try have h652 : x650.toInt = i.toInt + (6) := ty_inc h651 (by decide) (by omega) (by omega)
  refine lv_iinc (v := x650) (lv' := [(4, .int x650), (3, .ref q29), (2, .ref q13), (1, .ref q1), (0, .ref b)]) hx hb dL_law_1047 hl (k := 0) rfl h651.symm (by decide) rfl (fun ls hl => ?_)
  refine lv_goto (tgt := 23) hx hb dL_law_1050 (by decide) ?_
  exact ih x650 Γ606 u642 ((kc + 1)) ((ks + 4)) _ _ ls (by omega) (by omega) (by have a9 := congrFun (hw647 4 (by decide)) 0; have b9 := congrFun (hw615 4 (by decide)) 0; omega) hst648.1 (IJ_e hj616 (hw647 126 (by decide)) (hw647 132 (by decide)) (hw647 134 (by decide))) (Bd_e hB612 (hw647 33 (by decide)) (hw647 34 (by decide)) (hw647 35 (by decide))) hU t_q1 t_q13 t_q29 (by omega) (by omega) hG hS (lv_sub hl [0, 1, 2, 3, 4] rfl)
set_option maxHeartbeats 40000000 in
set_option maxRecDepth 100000 in
/-- the law's case 11 -/
theorem law_c11 {p : Program} {e : Env} {s : State} {m : MethodId} {below : List Frame} {meth : Method} {c : Code} (l : Launch) (hl9 : l.stackTraces = false) {b L : Nat} {xs : Nat → Int32} (hLN : L ≤ 3072) (hx : p.tables.exec = Jvm.exec) (hb : c.code = code) (hr : meth.sig.returnType = ret) (hml : c.maxLocals = 7) (hown : s.vm.findClass R_law = some m.cls) (hA : ∀ w ∈ AL, w.before #[Value.ref b] s = true) (hXs : va_X b L xs s s.heap) (hbl : b < s.heap.size) (hlocks : meth.locks = false) {dC : Nat → ClassId} {dI : Nat → Nat → Nat} {dA : Nat → ClassId} {sz : Nat} (hE : en dC dI dA sz s) (hsz : sz = s.heap.size) (hbA : ¬ ty_A sz b) (X : va_W) (q1 q13 q29 : Nat) (n : Nat) (ih : LJ p l e s m below meth c b dC dI dA sz X q1 q13 q29 n) (i : Int32) (Γ : ty_G) (g : gh) (kc ks : Nat) (H : Heap) (locs : List Loc) (ls : Array Slot) (hm : (3073 - i.toInt : Int) < (n + 1 : Nat)) (hi0 : 0 ≤ i.toInt ∧ i.toInt ≤ 3072) (hy4 : g 4 0 ≤ i.toInt) (hRL : RLA g) (hIJ : IJ g) (hBd : Bd Γ g) (hU : Un Γ) (t_q1 : ty Γ q1 1) (t_q13 : ty Γ q13 30) (t_q29 : ty Γ q29 25) (hkc : kc ≤ 300 + i.toInt.toNat) (hks : ks ≤ 30000 + 28 * i.toInt.toNat) (hG : ty_ok (dC, dI) vwCl Γ (TP dA Γ g) sz X H) (hS : va_S (ty_A sz) s.heap H locs) (hl : lv_has ls 7 [(4, .int i), (3, .ref q29), (2, .ref q13), (1, .ref q1), (0, .ref b)]) (hiL : i.toInt + 6 ≤ (L : Int)) : W p l e room_1 s m #[Value.ref b] below meth c H locs kc ks (lw_Z below #[Value.ref b] s) (F0 m 619 ls []) := by
  refine lv_aload_n hx hb dL_law_619 rfl (lv_at hl 3 rfl) ?_
  refine lv_aload_n hx hb dL_law_620 rfl (lv_at hl 4 rfl) ?_
  refine lv_iload hx hb dL_law_621 (lv_at hl 0 rfl) ?_
  refine ty_iconst hx hb (1) dL_law_623 (by decide) (fun x653 h654 => ?_)
  refine ty_iadd hx hb dL_law_624 (fun x655 h656 => ?_)
  have h657 := lw_ix (k := 1) h654 h656 hi0 hiL hLN (by decide)
  refine va_sld hx hb hXs hbl hbA hS (i := x655) (ty_ix h657.2) dL_law_625 ?_
  refine W.eq (g2 := F0 m 626 ls [.int (xs (i.toInt.toNat + 1)), .ref q1]) (by rw [lw_xs (xs := xs) h657.1 hi0.1]) ?_
  clear h657 h656 h654
  refine lv_topi (fun x658 s659 => ?_)
  refine cI (va_runV (C := RX8) (As := [.int x658]) (rest := []) ⟨hx, hb, hml, hown, hA⟩ (k_X8_rings l dC dI dA sz X Γ hU g q1 t_q1 x658   (RL_3 hRL) (RL_64 hRL) (RL_86 hRL) (RL_cn hRL hIJ)) ⟨callB_of 1 hA (al_A wd_3_110) rfl rfl rfl (hA _ wd_1_1) (hA _ wd_3_107) (by decide +kernel) ⟨Nat.le_of_ble_eq_true rfl, Nat.le_of_ble_eq_true rfl⟩, hA _ wd_3_108, hA _ wd_3_109⟩ ⟨bl, recv_X8 hE hG t_q1, fun U hU9 hW9 => ⟨rfl, by rw [hU9]; exact hG, hE.go hS hU9 hW9⟩⟩ rfl rfl hl.1 rfl (lv_room (Nat.le_of_ble_eq_true rfl)) dL_law_626 ⟨(Nat.le_trans (show kc + 0 ≤ 300000 by omega) (Nat.le_of_ble_eq_true rfl)), (Nat.le_trans (show ks + 0 ≤ 300000 by omega) (Nat.le_of_ble_eq_true rfl))⟩) hS (fun x662 u660 H locs w661 hG hS => ?_)
  obtain ⟨hf665, hq663, hq664⟩ := w661
  replace hq663 := HD.mk hq663
  replace hq664 := HD.mk hq664
  have hw666 : ∀ c, c ∉ ([7, 8, 46, 65, 67, 68, 83, 84, 85, 86] : List Nat) → u660 c = g c := fun c hc => funext fun j => hf665 c j (fun q => hc (by rw [q]; decide)) (fun q => hc (by rw [q]; decide)) (fun q => hc (by rw [q]; decide)) (fun q => hc (by rw [q]; decide)) (fun q => hc (by rw [q]; decide)) (fun q => hc (by rw [q]; decide)) (fun q => hc (by rw [q]; decide)) (fun q => hc (by rw [q]; decide)) (fun q => hc (by rw [q]; decide)) (fun q => hc (by rw [q]; decide))
  have hb667 : Bd Γ u660 := Bd_e hBd (hw666 33 (by decide)) (hw666 34 (by decide)) (hw666 35 (by decide))
  have hj668 : IJ u660 := IJ_e hIJ (hw666 126 (by decide)) (hw666 132 (by decide)) (hw666 134 (by decide))
  refine lv_pop hx hb dL_law_629 rfl ?_
  refine lv_aload_n hx hb dL_law_630 rfl (lv_at hl 2 rfl) ?_
  refine lv_aload_n hx hb dL_law_631 rfl (lv_at hl 4 rfl) ?_
  refine lv_iload hx hb dL_law_632 (lv_at hl 0 rfl) ?_
  refine ty_iconst hx hb (1) dL_law_634 (by decide) (fun x669 h670 => ?_)
  refine ty_iadd hx hb dL_law_635 (fun x671 h672 => ?_)
  have h673 := lw_ix (k := 1) h670 h672 hi0 hiL hLN (by decide)
  refine va_sld hx hb hXs hbl hbA hS (i := x671) (ty_ix h673.2) dL_law_636 ?_
  refine W.eq (g2 := F0 m 637 ls [.int (xs (i.toInt.toNat + 1)), .ref q13]) (by rw [lw_xs (xs := xs) h673.1 hi0.1]) ?_
  clear h673 h672 h670
  refine W.eq (g2 := F0 m 637 ls [.int x658, .ref q13]) (by rw [s659]) ?_
  refine cI (va_runV (C := RX9) (As := [.int x658]) (rest := []) ⟨hx, hb, hml, hown, hA⟩ (k_X9_rings l dC dI dA sz X Γ hU u660 q13 t_q13 x658   (RM_126 hRL (hw666 126 (by decide))) (hj668) (RM_131 hRL (hw666 126 (by decide)) (hw666 131 (by decide)))) ⟨callB_of 1 hA (al_A wd_5_148) rfl rfl rfl (hA _ wd_1_7) (hA _ wd_5_145) (by decide +kernel) ⟨Nat.le_of_ble_eq_true rfl, Nat.le_of_ble_eq_true rfl⟩, hA _ wd_5_146, hA _ wd_5_147⟩ ⟨bl, recv_X9 hE hG t_q13, fun U hU9 hW9 => ⟨rfl, by rw [hU9]; exact hG, hE.go hS hU9 hW9⟩⟩ rfl rfl hl.1 rfl (lv_room (Nat.le_of_ble_eq_true rfl)) dL_law_637 ⟨(Nat.le_trans (show kc + 0 ≤ 300000 by omega) (Nat.le_of_ble_eq_true rfl)), (Nat.le_trans (show ks + 0 ≤ 300000 by omega) (Nat.le_of_ble_eq_true rfl))⟩) hS (fun x676 u674 H locs w675 hG hS => ?_)
  obtain ⟨hf679, hq677, hq678⟩ := w675
  replace hq678 := HD.mk hq678
  have hw680 : ∀ c, c ∉ ([100, 132, 133, 134, 136, 137, 138, 139, 140, 141, 142, 143] : List Nat) → u674 c = u660 c := fun c hc => funext fun j => hf679 c j (fun q => hc (by rw [q]; decide)) (fun q => hc (by rw [q]; decide)) (fun q => hc (by rw [q]; decide)) (fun q => hc (by rw [q]; decide)) (fun q => hc (by rw [q]; decide)) (fun q => hc (by rw [q]; decide)) (fun q => hc (by rw [q]; decide)) (fun q => hc (by rw [q]; decide)) (fun q => hc (by rw [q]; decide)) (fun q => hc (by rw [q]; decide)) (fun q => hc (by rw [q]; decide)) (fun q => hc (by rw [q]; decide))
  have hst681 := st_rings (g := g) (u1 := u660) (u2 := u674) (r1 := x662) (r2 := x676) hRL hw666 hw680 hq663.v hq664.v hq678.v
  have hrr682 := hst681.2
  refine lv_pop hx hb dL_law_640 rfl ?_
  refine lv_goto (tgt := 1047) hx hb dL_law_641 (by decide) ?_
  obtain ⟨x683, h684⟩ : ∃ y : Int32, y = i + Int32.ofInt (6) := ⟨_, rfl⟩
  try have h685 : x683.toInt = i.toInt + (6) := ty_inc h684 (by decide) (by omega) (by omega)
  refine lv_iinc (v := x683) (lv' := [(4, .int x683), (3, .ref q29), (2, .ref q13), (1, .ref q1), (0, .ref b)]) hx hb dL_law_1047 hl (k := 0) rfl h684.symm (by decide) rfl (fun ls hl => ?_)
  refine lv_goto (tgt := 23) hx hb dL_law_1050 (by decide) ?_
  exact ih x683 Γ u674 (kc) (ks) _ _ ls (by omega) (by omega) (by have a9 := congrFun (hw680 4 (by decide)) 0; have b9 := congrFun (hw666 4 (by decide)) 0; omega) hst681.1 hq677 (Bd_e hb667 (hw680 33 (by decide)) (hw680 34 (by decide)) (hw680 35 (by decide))) hU t_q1 t_q13 t_q29 (by omega) (by omega) hG hS (lv_sub hl [0, 1, 2, 3, 4] rfl)
set_option maxHeartbeats 40000000 in
set_option maxRecDepth 100000 in
/-- the law's case 12 -/
theorem law_c12 {p : Program} {e : Env} {s : State} {m : MethodId} {below : List Frame} {meth : Method} {c : Code} (l : Launch) (hl9 : l.stackTraces = false) {b L : Nat} {xs : Nat → Int32} (hLN : L ≤ 3072) (hx : p.tables.exec = Jvm.exec) (hb : c.code = code) (hr : meth.sig.returnType = ret) (hml : c.maxLocals = 7) (hown : s.vm.findClass R_law = some m.cls) (hA : ∀ w ∈ AL, w.before #[Value.ref b] s = true) (hXs : va_X b L xs s s.heap) (hbl : b < s.heap.size) (hlocks : meth.locks = false) {dC : Nat → ClassId} {dI : Nat → Nat → Nat} {dA : Nat → ClassId} {sz : Nat} (hE : en dC dI dA sz s) (hsz : sz = s.heap.size) (hbA : ¬ ty_A sz b) (X : va_W) (q1 q13 q29 : Nat) (n : Nat) (ih : LJ p l e s m below meth c b dC dI dA sz X q1 q13 q29 n) (i : Int32) (Γ : ty_G) (g : gh) (kc ks : Nat) (H : Heap) (locs : List Loc) (ls : Array Slot) (hm : (3073 - i.toInt : Int) < (n + 1 : Nat)) (hi0 : 0 ≤ i.toInt ∧ i.toInt ≤ 3072) (hy4 : g 4 0 ≤ i.toInt) (hRL : RLA g) (hIJ : IJ g) (hBd : Bd Γ g) (hU : Un Γ) (t_q1 : ty Γ q1 1) (t_q13 : ty Γ q13 30) (t_q29 : ty Γ q29 25) (hkc : kc ≤ 300 + i.toInt.toNat) (hks : ks ≤ 30000 + 28 * i.toInt.toNat) (hG : ty_ok (dC, dI) vwCl Γ (TP dA Γ g) sz X H) (hS : va_S (ty_A sz) s.heap H locs) (hl : lv_has ls 7 [(4, .int i), (3, .ref q29), (2, .ref q13), (1, .ref q1), (0, .ref b)]) (hiL : i.toInt + 6 ≤ (L : Int)) : W p l e room_1 s m #[Value.ref b] below meth c H locs kc ks (lw_Z below #[Value.ref b] s) (F0 m 644 ls []) := by
  refine lv_aload_n hx hb dL_law_644 rfl (lv_at hl 3 rfl) ?_
  refine lv_aload_n hx hb dL_law_645 rfl (lv_at hl 4 rfl) ?_
  refine lv_iload hx hb dL_law_646 (lv_at hl 0 rfl) ?_
  refine ty_iconst hx hb (1) dL_law_648 (by decide) (fun x686 h687 => ?_)
  refine ty_iadd hx hb dL_law_649 (fun x688 h689 => ?_)
  have h690 := lw_ix (k := 1) h687 h689 hi0 hiL hLN (by decide)
  refine va_sld hx hb hXs hbl hbA hS (i := x688) (ty_ix h690.2) dL_law_650 ?_
  refine W.eq (g2 := F0 m 651 ls [.int (xs (i.toInt.toNat + 1)), .ref q1]) (by rw [lw_xs (xs := xs) h690.1 hi0.1]) ?_
  clear h690 h689 h687
  refine lv_topi (fun x691 s692 => ?_)
  refine cI (va_runV (C := RX8) (As := [.int x691]) (rest := []) ⟨hx, hb, hml, hown, hA⟩ (k_X8_bank l dC dI dA sz X Γ hU g q1 t_q1 x691   (RL_3 hRL)) ⟨callB_of 1 hA (al_A wd_3_186) rfl rfl rfl (hA _ wd_1_1) (hA _ wd_3_183) (by decide +kernel) ⟨Nat.le_of_ble_eq_true rfl, Nat.le_of_ble_eq_true rfl⟩, hA _ wd_3_184, hA _ wd_3_185⟩ ⟨bl, recv_X8 hE hG t_q1, fun U hU9 hW9 => ⟨rfl, by rw [hU9]; exact hG, hE.go hS hU9 hW9⟩⟩ rfl rfl hl.1 rfl (lv_room (Nat.le_of_ble_eq_true rfl)) dL_law_651 ⟨(Nat.le_trans (show kc + 0 ≤ 300000 by omega) (Nat.le_of_ble_eq_true rfl)), (Nat.le_trans (show ks + 0 ≤ 300000 by omega) (Nat.le_of_ble_eq_true rfl))⟩) hS (fun x695 u693 H locs w694 hG hS => ?_)
  obtain ⟨hf697, hq696⟩ := w694
  replace hq696 := HD.mk hq696
  have hw698 : ∀ c, c ∉ ([51, 65] : List Nat) → u693 c = g c := fun c hc => funext fun j => hf697 c j (fun q => hc (by rw [q]; decide)) (fun q => hc (by rw [q]; decide))
  have hb699 : Bd Γ u693 := Bd_e hBd (hw698 33 (by decide)) (hw698 34 (by decide)) (hw698 35 (by decide))
  have hj700 : IJ u693 := IJ_e hIJ (hw698 126 (by decide)) (hw698 132 (by decide)) (hw698 134 (by decide))
  refine lv_pop hx hb dL_law_654 rfl ?_
  refine lv_aload_n hx hb dL_law_655 rfl (lv_at hl 2 rfl) ?_
  refine lv_aload_n hx hb dL_law_656 rfl (lv_at hl 4 rfl) ?_
  refine lv_iload hx hb dL_law_657 (lv_at hl 0 rfl) ?_
  refine ty_iconst hx hb (1) dL_law_659 (by decide) (fun x701 h702 => ?_)
  refine ty_iadd hx hb dL_law_660 (fun x703 h704 => ?_)
  have h705 := lw_ix (k := 1) h702 h704 hi0 hiL hLN (by decide)
  refine va_sld hx hb hXs hbl hbA hS (i := x703) (ty_ix h705.2) dL_law_661 ?_
  refine W.eq (g2 := F0 m 662 ls [.int (xs (i.toInt.toNat + 1)), .ref q13]) (by rw [lw_xs (xs := xs) h705.1 hi0.1]) ?_
  clear h705 h704 h702
  refine W.eq (g2 := F0 m 662 ls [.int x691, .ref q13]) (by rw [s692]) ?_
  refine cI (va_runV (C := RX9) (As := [.int x691]) (rest := []) ⟨hx, hb, hml, hown, hA⟩ (k_X9_bank l dC dI dA sz X Γ hU u693 q13 t_q13 x691   (RM_126 hRL (hw698 126 (by decide))) (hj700)) ⟨callB_of 1 hA (al_A wd_5_168) rfl rfl rfl (hA _ wd_1_7) (hA _ wd_5_165) (by decide +kernel) ⟨Nat.le_of_ble_eq_true rfl, Nat.le_of_ble_eq_true rfl⟩, hA _ wd_5_166, hA _ wd_5_167⟩ ⟨bl, recv_X9 hE hG t_q13, fun U hU9 hW9 => ⟨rfl, by rw [hU9]; exact hG, hE.go hS hU9 hW9⟩⟩ rfl rfl hl.1 rfl (lv_room (Nat.le_of_ble_eq_true rfl)) dL_law_662 ⟨(Nat.le_trans (show kc + 0 ≤ 300000 by omega) (Nat.le_of_ble_eq_true rfl)), (Nat.le_trans (show ks + 0 ≤ 300000 by omega) (Nat.le_of_ble_eq_true rfl))⟩) hS (fun x708 u706 H locs w707 hG hS => ?_)
  obtain ⟨hf711, hq709, hq710⟩ := w707
  replace hq710 := HD.mk hq710
  have hw712 : ∀ c, c ∉ ([100, 106, 132] : List Nat) → u706 c = u693 c := fun c hc => funext fun j => hf711 c j (fun q => hc (by rw [q]; decide)) (fun q => hc (by rw [q]; decide)) (fun q => hc (by rw [q]; decide))
  have hst713 := st_bank (g := g) (u1 := u693) (u2 := u706) (r1 := x695) (r2 := x708) hRL hw698 hw712 hq696.v hq710.v
  have hrr714 := hst713.2
  refine lv_pop hx hb dL_law_665 rfl ?_
  refine lv_goto (tgt := 1047) hx hb dL_law_666 (by decide) ?_
  obtain ⟨x715, h716⟩ : ∃ y : Int32, y = i + Int32.ofInt (6) := ⟨_, rfl⟩
  try have h717 : x715.toInt = i.toInt + (6) := ty_inc h716 (by decide) (by omega) (by omega)
  refine lv_iinc (v := x715) (lv' := [(4, .int x715), (3, .ref q29), (2, .ref q13), (1, .ref q1), (0, .ref b)]) hx hb dL_law_1047 hl (k := 0) rfl h716.symm (by decide) rfl (fun ls hl => ?_)
  refine lv_goto (tgt := 23) hx hb dL_law_1050 (by decide) ?_
  exact ih x715 Γ u706 (kc) (ks) _ _ ls (by omega) (by omega) (by have a9 := congrFun (hw712 4 (by decide)) 0; have b9 := congrFun (hw698 4 (by decide)) 0; omega) hst713.1 hq709 (Bd_e hb699 (hw712 33 (by decide)) (hw712 34 (by decide)) (hw712 35 (by decide))) hU t_q1 t_q13 t_q29 (by omega) (by omega) hG hS (lv_sub hl [0, 1, 2, 3, 4] rfl)
set_option maxHeartbeats 40000000 in
set_option maxRecDepth 100000 in
/-- the law's case 13 -/
theorem law_c13 {p : Program} {e : Env} {s : State} {m : MethodId} {below : List Frame} {meth : Method} {c : Code} (l : Launch) (hl9 : l.stackTraces = false) {b L : Nat} {xs : Nat → Int32} (hLN : L ≤ 3072) (hx : p.tables.exec = Jvm.exec) (hb : c.code = code) (hr : meth.sig.returnType = ret) (hml : c.maxLocals = 7) (hown : s.vm.findClass R_law = some m.cls) (hA : ∀ w ∈ AL, w.before #[Value.ref b] s = true) (hXs : va_X b L xs s s.heap) (hbl : b < s.heap.size) (hlocks : meth.locks = false) {dC : Nat → ClassId} {dI : Nat → Nat → Nat} {dA : Nat → ClassId} {sz : Nat} (hE : en dC dI dA sz s) (hsz : sz = s.heap.size) (hbA : ¬ ty_A sz b) (X : va_W) (q1 q13 q29 : Nat) (n : Nat) (ih : LJ p l e s m below meth c b dC dI dA sz X q1 q13 q29 n) (i : Int32) (Γ : ty_G) (g : gh) (kc ks : Nat) (H : Heap) (locs : List Loc) (ls : Array Slot) (hm : (3073 - i.toInt : Int) < (n + 1 : Nat)) (hi0 : 0 ≤ i.toInt ∧ i.toInt ≤ 3072) (hy4 : g 4 0 ≤ i.toInt) (hRL : RLA g) (hIJ : IJ g) (hBd : Bd Γ g) (hU : Un Γ) (t_q1 : ty Γ q1 1) (t_q13 : ty Γ q13 30) (t_q29 : ty Γ q29 25) (hkc : kc ≤ 300 + i.toInt.toNat) (hks : ks ≤ 30000 + 28 * i.toInt.toNat) (hG : ty_ok (dC, dI) vwCl Γ (TP dA Γ g) sz X H) (hS : va_S (ty_A sz) s.heap H locs) (hl : lv_has ls 7 [(4, .int i), (3, .ref q29), (2, .ref q13), (1, .ref q1), (0, .ref b)]) (hiL : i.toInt + 6 ≤ (L : Int)) : W p l e room_1 s m #[Value.ref b] below meth c H locs kc ks (lw_Z below #[Value.ref b] s) (F0 m 669 ls []) := by
  refine lv_aload_n hx hb dL_law_669 rfl (lv_at hl 3 rfl) ?_
  refine lv_aload_n hx hb dL_law_670 rfl (lv_at hl 4 rfl) ?_
  refine lv_iload hx hb dL_law_671 (lv_at hl 0 rfl) ?_
  refine ty_iconst hx hb (1) dL_law_673 (by decide) (fun x718 h719 => ?_)
  refine ty_iadd hx hb dL_law_674 (fun x720 h721 => ?_)
  have h722 := lw_ix (k := 1) h719 h721 hi0 hiL hLN (by decide)
  refine va_sld hx hb hXs hbl hbA hS (i := x720) (ty_ix h722.2) dL_law_675 ?_
  refine W.eq (g2 := F0 m 676 ls [.int (xs (i.toInt.toNat + 1)), .ref q1]) (by rw [lw_xs (xs := xs) h722.1 hi0.1]) ?_
  clear h722 h721 h719
  refine lv_topi (fun x723 s724 => ?_)
  refine lv_aload_n hx hb dL_law_676 rfl (lv_at hl 4 rfl) ?_
  refine lv_iload hx hb dL_law_677 (lv_at hl 0 rfl) ?_
  refine ty_iconst hx hb (2) dL_law_679 (by decide) (fun x725 h726 => ?_)
  refine ty_iadd hx hb dL_law_680 (fun x727 h728 => ?_)
  have h729 := lw_ix (k := 2) h726 h728 hi0 hiL hLN (by decide)
  refine va_sld hx hb hXs hbl hbA hS (i := x727) (ty_ix h729.2) dL_law_681 ?_
  refine W.eq (g2 := F0 m 682 ls [.int (xs (i.toInt.toNat + 2)), .int x723, .ref q1]) (by rw [lw_xs (xs := xs) h729.1 hi0.1]) ?_
  clear h729 h728 h726
  refine lv_topi (fun x730 s731 => ?_)
  refine cI (va_runV (C := RX8) (As := [.int x723, .int x730]) (rest := []) ⟨hx, hb, hml, hown, hA⟩ (k_X8_take l dC dI dA sz X Γ hU g q1 t_q1 x723 x730   (RL_2 hRL) (RL_3 hRL)) ⟨callB_of 2 hA (al_A wd_3_190) rfl rfl rfl (hA _ wd_1_1) (hA _ wd_3_187) (by decide +kernel) ⟨Nat.le_of_ble_eq_true rfl, Nat.le_of_ble_eq_true rfl⟩, hA _ wd_3_188, hA _ wd_3_189⟩ ⟨bl, recv_X8 hE hG t_q1, fun U hU9 hW9 => ⟨rfl, by rw [hU9]; exact hG, hE.go hS hU9 hW9⟩⟩ rfl rfl hl.1 rfl (lv_room (Nat.le_of_ble_eq_true rfl)) dL_law_682 ⟨(Nat.le_trans (show kc + 0 ≤ 300000 by omega) (Nat.le_of_ble_eq_true rfl)), (Nat.le_trans (show ks + 0 ≤ 300000 by omega) (Nat.le_of_ble_eq_true rfl))⟩) hS (fun x734 u732 H locs w733 hG hS => ?_)
  obtain ⟨hf736, hq735⟩ := w733
  replace hq735 := HD.mk hq735
  have hw737 : ∀ c, c ∉ ([51, 65, 68] : List Nat) → u732 c = g c := fun c hc => funext fun j => hf736 c j (fun q => hc (by rw [q]; decide)) (fun q => hc (by rw [q]; decide)) (fun q => hc (by rw [q]; decide))
  have hb738 : Bd Γ u732 := Bd_e hBd (hw737 33 (by decide)) (hw737 34 (by decide)) (hw737 35 (by decide))
  have hj739 : IJ u732 := IJ_e hIJ (hw737 126 (by decide)) (hw737 132 (by decide)) (hw737 134 (by decide))
  refine lv_pop hx hb dL_law_685 rfl ?_
  refine lv_aload_n hx hb dL_law_686 rfl (lv_at hl 2 rfl) ?_
  refine lv_aload_n hx hb dL_law_687 rfl (lv_at hl 4 rfl) ?_
  refine lv_iload hx hb dL_law_688 (lv_at hl 0 rfl) ?_
  refine ty_iconst hx hb (1) dL_law_690 (by decide) (fun x740 h741 => ?_)
  refine ty_iadd hx hb dL_law_691 (fun x742 h743 => ?_)
  have h744 := lw_ix (k := 1) h741 h743 hi0 hiL hLN (by decide)
  refine va_sld hx hb hXs hbl hbA hS (i := x742) (ty_ix h744.2) dL_law_692 ?_
  refine W.eq (g2 := F0 m 693 ls [.int (xs (i.toInt.toNat + 1)), .ref q13]) (by rw [lw_xs (xs := xs) h744.1 hi0.1]) ?_
  clear h744 h743 h741
  refine W.eq (g2 := F0 m 693 ls [.int x723, .ref q13]) (by rw [s724]) ?_
  refine lv_aload_n hx hb dL_law_693 rfl (lv_at hl 4 rfl) ?_
  refine lv_iload hx hb dL_law_694 (lv_at hl 0 rfl) ?_
  refine ty_iconst hx hb (2) dL_law_696 (by decide) (fun x745 h746 => ?_)
  refine ty_iadd hx hb dL_law_697 (fun x747 h748 => ?_)
  have h749 := lw_ix (k := 2) h746 h748 hi0 hiL hLN (by decide)
  refine va_sld hx hb hXs hbl hbA hS (i := x747) (ty_ix h749.2) dL_law_698 ?_
  refine W.eq (g2 := F0 m 699 ls [.int (xs (i.toInt.toNat + 2)), .int x723, .ref q13]) (by rw [lw_xs (xs := xs) h749.1 hi0.1]) ?_
  clear h749 h748 h746
  refine W.eq (g2 := F0 m 699 ls [.int x730, .int x723, .ref q13]) (by rw [s731]) ?_
  refine cI (va_runV (C := RX9) (As := [.int x723, .int x730]) (rest := []) ⟨hx, hb, hml, hown, hA⟩ (k_X9_take l dC dI dA sz X Γ hU u732 q13 t_q13 x723 x730   (RM_104 hRL (hw737 104 (by decide))) (RM_126 hRL (hw737 126 (by decide))) (hj739)) ⟨callB_of 2 hA (al_A wd_5_172) rfl rfl rfl (hA _ wd_1_7) (hA _ wd_5_169) (by decide +kernel) ⟨Nat.le_of_ble_eq_true rfl, Nat.le_of_ble_eq_true rfl⟩, hA _ wd_5_170, hA _ wd_5_171⟩ ⟨bl, recv_X9 hE hG t_q13, fun U hU9 hW9 => ⟨rfl, by rw [hU9]; exact hG, hE.go hS hU9 hW9⟩⟩ rfl rfl hl.1 rfl (lv_room (Nat.le_of_ble_eq_true rfl)) dL_law_699 ⟨(Nat.le_trans (show kc + 0 ≤ 300000 by omega) (Nat.le_of_ble_eq_true rfl)), (Nat.le_trans (show ks + 0 ≤ 300000 by omega) (Nat.le_of_ble_eq_true rfl))⟩) hS (fun x752 u750 H locs w751 hG hS => ?_)
  obtain ⟨hf755, hq753, hq754⟩ := w751
  replace hq754 := HD.mk hq754
  have hw756 : ∀ c, c ∉ ([100, 106, 132, 134] : List Nat) → u750 c = u732 c := fun c hc => funext fun j => hf755 c j (fun q => hc (by rw [q]; decide)) (fun q => hc (by rw [q]; decide)) (fun q => hc (by rw [q]; decide)) (fun q => hc (by rw [q]; decide))
  have hst757 := st_take (g := g) (u1 := u732) (u2 := u750) (r1 := x734) (r2 := x752) hRL hw737 hw756 hq735.v hq754.v
  have hrr758 := hst757.2
  refine lv_pop hx hb dL_law_702 rfl ?_
  refine lv_goto (tgt := 1047) hx hb dL_law_703 (by decide) ?_
  obtain ⟨x759, h760⟩ : ∃ y : Int32, y = i + Int32.ofInt (6) := ⟨_, rfl⟩
  try have h761 : x759.toInt = i.toInt + (6) := ty_inc h760 (by decide) (by omega) (by omega)
  refine lv_iinc (v := x759) (lv' := [(4, .int x759), (3, .ref q29), (2, .ref q13), (1, .ref q1), (0, .ref b)]) hx hb dL_law_1047 hl (k := 0) rfl h760.symm (by decide) rfl (fun ls hl => ?_)
  refine lv_goto (tgt := 23) hx hb dL_law_1050 (by decide) ?_
  exact ih x759 Γ u750 (kc) (ks) _ _ ls (by omega) (by omega) (by have a9 := congrFun (hw756 4 (by decide)) 0; have b9 := congrFun (hw737 4 (by decide)) 0; omega) hst757.1 hq753 (Bd_e hb738 (hw756 33 (by decide)) (hw756 34 (by decide)) (hw756 35 (by decide))) hU t_q1 t_q13 t_q29 (by omega) (by omega) hG hS (lv_sub hl [0, 1, 2, 3, 4] rfl)
set_option maxHeartbeats 40000000 in
set_option maxRecDepth 100000 in
/-- the law's case 14 -/
theorem law_c14 {p : Program} {e : Env} {s : State} {m : MethodId} {below : List Frame} {meth : Method} {c : Code} (l : Launch) (hl9 : l.stackTraces = false) {b L : Nat} {xs : Nat → Int32} (hLN : L ≤ 3072) (hx : p.tables.exec = Jvm.exec) (hb : c.code = code) (hr : meth.sig.returnType = ret) (hml : c.maxLocals = 7) (hown : s.vm.findClass R_law = some m.cls) (hA : ∀ w ∈ AL, w.before #[Value.ref b] s = true) (hXs : va_X b L xs s s.heap) (hbl : b < s.heap.size) (hlocks : meth.locks = false) {dC : Nat → ClassId} {dI : Nat → Nat → Nat} {dA : Nat → ClassId} {sz : Nat} (hE : en dC dI dA sz s) (hsz : sz = s.heap.size) (hbA : ¬ ty_A sz b) (X : va_W) (q1 q13 q29 : Nat) (n : Nat) (ih : LJ p l e s m below meth c b dC dI dA sz X q1 q13 q29 n) (i : Int32) (Γ : ty_G) (g : gh) (kc ks : Nat) (H : Heap) (locs : List Loc) (ls : Array Slot) (hm : (3073 - i.toInt : Int) < (n + 1 : Nat)) (hi0 : 0 ≤ i.toInt ∧ i.toInt ≤ 3072) (hy4 : g 4 0 ≤ i.toInt) (hRL : RLA g) (hIJ : IJ g) (hBd : Bd Γ g) (hU : Un Γ) (t_q1 : ty Γ q1 1) (t_q13 : ty Γ q13 30) (t_q29 : ty Γ q29 25) (hkc : kc ≤ 300 + i.toInt.toNat) (hks : ks ≤ 30000 + 28 * i.toInt.toNat) (hG : ty_ok (dC, dI) vwCl Γ (TP dA Γ g) sz X H) (hS : va_S (ty_A sz) s.heap H locs) (hl : lv_has ls 7 [(4, .int i), (3, .ref q29), (2, .ref q13), (1, .ref q1), (0, .ref b)]) (hiL : i.toInt + 6 ≤ (L : Int)) : W p l e room_1 s m #[Value.ref b] below meth c H locs kc ks (lw_Z below #[Value.ref b] s) (F0 m 706 ls []) := by
  refine lv_aload_n hx hb dL_law_706 rfl (lv_at hl 3 rfl) ?_
  refine cI (va_runV (C := RX8) (As := []) (rest := []) ⟨hx, hb, hml, hown, hA⟩ (k_X8_rush l dC dI dA sz X Γ hU g q1 t_q1   (RL_2 hRL) (RL_3 hRL)) ⟨callB_of 0 hA (al_A wd_3_198) rfl rfl rfl (hA _ wd_1_1) (hA _ wd_3_195) (by decide +kernel) ⟨Nat.le_of_ble_eq_true rfl, Nat.le_of_ble_eq_true rfl⟩, hA _ wd_3_196, hA _ wd_3_197⟩ ⟨bl, recv_X8 hE hG t_q1, fun U hU9 hW9 => ⟨rfl, by rw [hU9]; exact hG, hE.go hS hU9 hW9⟩⟩ rfl rfl hl.1 rfl (lv_room (Nat.le_of_ble_eq_true rfl)) dL_law_707 ⟨(Nat.le_trans (show kc + 0 ≤ 300000 by omega) (Nat.le_of_ble_eq_true rfl)), (Nat.le_trans (show ks + 0 ≤ 300000 by omega) (Nat.le_of_ble_eq_true rfl))⟩) hS (fun x764 u762 H locs w763 hG hS => ?_)
  obtain ⟨hf766, hq765⟩ := w763
  replace hq765 := HD.mk hq765
  have hw767 : ∀ c, c ∉ ([51, 52, 55, 56, 65, 68] : List Nat) → u762 c = g c := fun c hc => funext fun j => hf766 c j (fun q => hc (by rw [q]; decide)) (fun q => hc (by rw [q]; decide)) (fun q => hc (by rw [q]; decide)) (fun q => hc (by rw [q]; decide)) (fun q => hc (by rw [q]; decide)) (fun q => hc (by rw [q]; decide))
  have hb768 : Bd Γ u762 := Bd_e hBd (hw767 33 (by decide)) (hw767 34 (by decide)) (hw767 35 (by decide))
  have hj769 : IJ u762 := IJ_e hIJ (hw767 126 (by decide)) (hw767 132 (by decide)) (hw767 134 (by decide))
  refine lv_pop hx hb dL_law_710 rfl ?_
  refine lv_aload_n hx hb dL_law_711 rfl (lv_at hl 2 rfl) ?_
  refine cI (va_runV (C := RX9) (As := []) (rest := []) ⟨hx, hb, hml, hown, hA⟩ (k_X9_rush l dC dI dA sz X Γ hU u762 q13 t_q13   (RM_104 hRL (hw767 104 (by decide))) (RM_126 hRL (hw767 126 (by decide))) (hj769)) ⟨callB_of 0 hA (al_A wd_5_180) rfl rfl rfl (hA _ wd_1_7) (hA _ wd_5_177) (by decide +kernel) ⟨Nat.le_of_ble_eq_true rfl, Nat.le_of_ble_eq_true rfl⟩, hA _ wd_5_178, hA _ wd_5_179⟩ ⟨bl, recv_X9 hE hG t_q13, fun U hU9 hW9 => ⟨rfl, by rw [hU9]; exact hG, hE.go hS hU9 hW9⟩⟩ rfl rfl hl.1 rfl (lv_room (Nat.le_of_ble_eq_true rfl)) dL_law_712 ⟨(Nat.le_trans (show kc + 0 ≤ 300000 by omega) (Nat.le_of_ble_eq_true rfl)), (Nat.le_trans (show ks + 0 ≤ 300000 by omega) (Nat.le_of_ble_eq_true rfl))⟩) hS (fun x772 u770 H locs w771 hG hS => ?_)
  obtain ⟨hf775, hq773, hq774⟩ := w771
  replace hq774 := HD.mk hq774
  have hw776 : ∀ c, c ∉ ([100, 106, 107, 132, 134, 135, 144, 145] : List Nat) → u770 c = u762 c := fun c hc => funext fun j => hf775 c j (fun q => hc (by rw [q]; decide)) (fun q => hc (by rw [q]; decide)) (fun q => hc (by rw [q]; decide)) (fun q => hc (by rw [q]; decide)) (fun q => hc (by rw [q]; decide)) (fun q => hc (by rw [q]; decide)) (fun q => hc (by rw [q]; decide)) (fun q => hc (by rw [q]; decide))
  have hst777 := st_rush (g := g) (u1 := u762) (u2 := u770) (r1 := x764) (r2 := x772) hRL hw767 hw776 hq765.v hq774.v
  have hrr778 := hst777.2
  refine lv_pop hx hb dL_law_715 rfl ?_
  refine lv_goto (tgt := 1047) hx hb dL_law_716 (by decide) ?_
  obtain ⟨x779, h780⟩ : ∃ y : Int32, y = i + Int32.ofInt (6) := ⟨_, rfl⟩
  try have h781 : x779.toInt = i.toInt + (6) := ty_inc h780 (by decide) (by omega) (by omega)
  refine lv_iinc (v := x779) (lv' := [(4, .int x779), (3, .ref q29), (2, .ref q13), (1, .ref q1), (0, .ref b)]) hx hb dL_law_1047 hl (k := 0) rfl h780.symm (by decide) rfl (fun ls hl => ?_)
  refine lv_goto (tgt := 23) hx hb dL_law_1050 (by decide) ?_
  exact ih x779 Γ u770 (kc) (ks) _ _ ls (by omega) (by omega) (by have a9 := congrFun (hw776 4 (by decide)) 0; have b9 := congrFun (hw767 4 (by decide)) 0; omega) hst777.1 hq773 (Bd_e hb768 (hw776 33 (by decide)) (hw776 34 (by decide)) (hw776 35 (by decide))) hU t_q1 t_q13 t_q29 (by omega) (by omega) hG hS (lv_sub hl [0, 1, 2, 3, 4] rfl)
set_option maxHeartbeats 40000000 in
set_option maxRecDepth 100000 in
/-- the law's case 15 -/
theorem law_c15 {p : Program} {e : Env} {s : State} {m : MethodId} {below : List Frame} {meth : Method} {c : Code} (l : Launch) (hl9 : l.stackTraces = false) {b L : Nat} {xs : Nat → Int32} (hLN : L ≤ 3072) (hx : p.tables.exec = Jvm.exec) (hb : c.code = code) (hr : meth.sig.returnType = ret) (hml : c.maxLocals = 7) (hown : s.vm.findClass R_law = some m.cls) (hA : ∀ w ∈ AL, w.before #[Value.ref b] s = true) (hXs : va_X b L xs s s.heap) (hbl : b < s.heap.size) (hlocks : meth.locks = false) {dC : Nat → ClassId} {dI : Nat → Nat → Nat} {dA : Nat → ClassId} {sz : Nat} (hE : en dC dI dA sz s) (hsz : sz = s.heap.size) (hbA : ¬ ty_A sz b) (X : va_W) (q1 q13 q29 : Nat) (n : Nat) (ih : LJ p l e s m below meth c b dC dI dA sz X q1 q13 q29 n) (i : Int32) (Γ : ty_G) (g : gh) (kc ks : Nat) (H : Heap) (locs : List Loc) (ls : Array Slot) (hm : (3073 - i.toInt : Int) < (n + 1 : Nat)) (hi0 : 0 ≤ i.toInt ∧ i.toInt ≤ 3072) (hy4 : g 4 0 ≤ i.toInt) (hRL : RLA g) (hIJ : IJ g) (hBd : Bd Γ g) (hU : Un Γ) (t_q1 : ty Γ q1 1) (t_q13 : ty Γ q13 30) (t_q29 : ty Γ q29 25) (hkc : kc ≤ 300 + i.toInt.toNat) (hks : ks ≤ 30000 + 28 * i.toInt.toNat) (hG : ty_ok (dC, dI) vwCl Γ (TP dA Γ g) sz X H) (hS : va_S (ty_A sz) s.heap H locs) (hl : lv_has ls 7 [(4, .int i), (3, .ref q29), (2, .ref q13), (1, .ref q1), (0, .ref b)]) (hiL : i.toInt + 6 ≤ (L : Int)) : W p l e room_1 s m #[Value.ref b] below meth c H locs kc ks (lw_Z below #[Value.ref b] s) (F0 m 719 ls []) := by
  refine lv_aload_n hx hb dL_law_719 rfl (lv_at hl 3 rfl) ?_
  refine lv_aload_n hx hb dL_law_720 rfl (lv_at hl 4 rfl) ?_
  refine lv_iload hx hb dL_law_721 (lv_at hl 0 rfl) ?_
  refine ty_iconst hx hb (1) dL_law_723 (by decide) (fun x782 h783 => ?_)
  refine ty_iadd hx hb dL_law_724 (fun x784 h785 => ?_)
  have h786 := lw_ix (k := 1) h783 h785 hi0 hiL hLN (by decide)
  refine va_sld hx hb hXs hbl hbA hS (i := x784) (ty_ix h786.2) dL_law_725 ?_
  refine W.eq (g2 := F0 m 726 ls [.int (xs (i.toInt.toNat + 1)), .ref q1]) (by rw [lw_xs (xs := xs) h786.1 hi0.1]) ?_
  clear h786 h785 h783
  refine lv_topi (fun x787 s788 => ?_)
  refine lv_aload_n hx hb dL_law_726 rfl (lv_at hl 4 rfl) ?_
  refine lv_iload hx hb dL_law_727 (lv_at hl 0 rfl) ?_
  refine ty_iconst hx hb (2) dL_law_729 (by decide) (fun x789 h790 => ?_)
  refine ty_iadd hx hb dL_law_730 (fun x791 h792 => ?_)
  have h793 := lw_ix (k := 2) h790 h792 hi0 hiL hLN (by decide)
  refine va_sld hx hb hXs hbl hbA hS (i := x791) (ty_ix h793.2) dL_law_731 ?_
  refine W.eq (g2 := F0 m 732 ls [.int (xs (i.toInt.toNat + 2)), .int x787, .ref q1]) (by rw [lw_xs (xs := xs) h793.1 hi0.1]) ?_
  clear h793 h792 h790
  refine lv_topi (fun x794 s795 => ?_)
  refine lv_aload_n hx hb dL_law_732 rfl (lv_at hl 4 rfl) ?_
  refine lv_iload hx hb dL_law_733 (lv_at hl 0 rfl) ?_
  refine ty_iconst hx hb (3) dL_law_735 (by decide) (fun x796 h797 => ?_)
  refine ty_iadd hx hb dL_law_736 (fun x798 h799 => ?_)
  have h800 := lw_ix (k := 3) h797 h799 hi0 hiL hLN (by decide)
  refine va_sld hx hb hXs hbl hbA hS (i := x798) (ty_ix h800.2) dL_law_737 ?_
  refine W.eq (g2 := F0 m 738 ls [.int (xs (i.toInt.toNat + 3)), .int x794, .int x787, .ref q1]) (by rw [lw_xs (xs := xs) h800.1 hi0.1]) ?_
  clear h800 h799 h797
  refine lv_topi (fun x801 s802 => ?_)
  refine cI (va_runV (C := RX8) (As := [.int x787, .int x794, .int x801]) (rest := []) ⟨hx, hb, hml, hown, hA⟩ (k_X8_shut l dC dI dA sz X Γ hU g q1 t_q1 x787 x794 x801   (RL_1 hRL) (RL_3 hRL) (RL_5 hRL)) ⟨callB_of 3 hA (al_A wd_3_211) rfl rfl rfl (hA _ wd_1_1) (hA _ wd_3_208) (by decide +kernel) ⟨Nat.le_of_ble_eq_true rfl, Nat.le_of_ble_eq_true rfl⟩, hA _ wd_3_209, hA _ wd_3_210⟩ ⟨bl, recv_X8 hE hG t_q1, fun U hU9 hW9 => ⟨rfl, by rw [hU9]; exact hG, hE.go hS hU9 hW9⟩⟩ rfl rfl hl.1 rfl (lv_room (Nat.le_of_ble_eq_true rfl)) dL_law_738 ⟨(Nat.le_trans (show kc + 0 ≤ 300000 by omega) (Nat.le_of_ble_eq_true rfl)), (Nat.le_trans (show ks + 0 ≤ 300000 by omega) (Nat.le_of_ble_eq_true rfl))⟩) hS (fun x805 u803 H locs w804 hG hS => ?_)
  obtain ⟨hf807, hq806⟩ := w804
  replace hq806 := HD.mk hq806
  have hw808 : ∀ c, c ∉ ([44, 51, 65] : List Nat) → u803 c = g c := fun c hc => funext fun j => hf807 c j (fun q => hc (by rw [q]; decide)) (fun q => hc (by rw [q]; decide)) (fun q => hc (by rw [q]; decide))
  have hb809 : Bd Γ u803 := Bd_e hBd (hw808 33 (by decide)) (hw808 34 (by decide)) (hw808 35 (by decide))
  have hj810 : IJ u803 := IJ_e hIJ (hw808 126 (by decide)) (hw808 132 (by decide)) (hw808 134 (by decide))
  refine lv_pop hx hb dL_law_741 rfl ?_
  refine lv_aload_n hx hb dL_law_742 rfl (lv_at hl 2 rfl) ?_
  refine lv_aload_n hx hb dL_law_743 rfl (lv_at hl 4 rfl) ?_
  refine lv_iload hx hb dL_law_744 (lv_at hl 0 rfl) ?_
  refine ty_iconst hx hb (1) dL_law_746 (by decide) (fun x811 h812 => ?_)
  refine ty_iadd hx hb dL_law_747 (fun x813 h814 => ?_)
  have h815 := lw_ix (k := 1) h812 h814 hi0 hiL hLN (by decide)
  refine va_sld hx hb hXs hbl hbA hS (i := x813) (ty_ix h815.2) dL_law_748 ?_
  refine W.eq (g2 := F0 m 749 ls [.int (xs (i.toInt.toNat + 1)), .ref q13]) (by rw [lw_xs (xs := xs) h815.1 hi0.1]) ?_
  clear h815 h814 h812
  refine W.eq (g2 := F0 m 749 ls [.int x787, .ref q13]) (by rw [s788]) ?_
  refine lv_aload_n hx hb dL_law_749 rfl (lv_at hl 4 rfl) ?_
  refine lv_iload hx hb dL_law_750 (lv_at hl 0 rfl) ?_
  refine ty_iconst hx hb (2) dL_law_752 (by decide) (fun x816 h817 => ?_)
  refine ty_iadd hx hb dL_law_753 (fun x818 h819 => ?_)
  have h820 := lw_ix (k := 2) h817 h819 hi0 hiL hLN (by decide)
  refine va_sld hx hb hXs hbl hbA hS (i := x818) (ty_ix h820.2) dL_law_754 ?_
  refine W.eq (g2 := F0 m 755 ls [.int (xs (i.toInt.toNat + 2)), .int x787, .ref q13]) (by rw [lw_xs (xs := xs) h820.1 hi0.1]) ?_
  clear h820 h819 h817
  refine W.eq (g2 := F0 m 755 ls [.int x794, .int x787, .ref q13]) (by rw [s795]) ?_
  refine lv_aload_n hx hb dL_law_755 rfl (lv_at hl 4 rfl) ?_
  refine lv_iload hx hb dL_law_756 (lv_at hl 0 rfl) ?_
  refine ty_iconst hx hb (3) dL_law_758 (by decide) (fun x821 h822 => ?_)
  refine ty_iadd hx hb dL_law_759 (fun x823 h824 => ?_)
  have h825 := lw_ix (k := 3) h822 h824 hi0 hiL hLN (by decide)
  refine va_sld hx hb hXs hbl hbA hS (i := x823) (ty_ix h825.2) dL_law_760 ?_
  refine W.eq (g2 := F0 m 761 ls [.int (xs (i.toInt.toNat + 3)), .int x794, .int x787, .ref q13]) (by rw [lw_xs (xs := xs) h825.1 hi0.1]) ?_
  clear h825 h824 h822
  refine W.eq (g2 := F0 m 761 ls [.int x801, .int x794, .int x787, .ref q13]) (by rw [s802]) ?_
  refine cI (va_runV (C := RX9) (As := [.int x787, .int x794, .int x801]) (rest := []) ⟨hx, hb, hml, hown, hA⟩ (k_X9_shut l dC dI dA sz X Γ hU u803 q13 t_q13 x787 x794 x801   (RM_101 hRL (hw808 101 (by decide))) (RM_126 hRL (hw808 126 (by decide))) (RM_112 hRL (hw808 112 (by decide))) (hj810)) ⟨callB_of 3 hA (al_A wd_5_188) rfl rfl rfl (hA _ wd_1_7) (hA _ wd_5_185) (by decide +kernel) ⟨Nat.le_of_ble_eq_true rfl, Nat.le_of_ble_eq_true rfl⟩, hA _ wd_5_186, hA _ wd_5_187⟩ ⟨bl, recv_X9 hE hG t_q13, fun U hU9 hW9 => ⟨rfl, by rw [hU9]; exact hG, hE.go hS hU9 hW9⟩⟩ rfl rfl hl.1 rfl (lv_room (Nat.le_of_ble_eq_true rfl)) dL_law_761 ⟨(Nat.le_trans (show kc + 0 ≤ 300000 by omega) (Nat.le_of_ble_eq_true rfl)), (Nat.le_trans (show ks + 0 ≤ 300000 by omega) (Nat.le_of_ble_eq_true rfl))⟩) hS (fun x828 u826 H locs w827 hG hS => ?_)
  obtain ⟨hf831, hq829, hq830⟩ := w827
  replace hq830 := HD.mk hq830
  have hw832 : ∀ c, c ∉ ([100, 106, 110, 132] : List Nat) → u826 c = u803 c := fun c hc => funext fun j => hf831 c j (fun q => hc (by rw [q]; decide)) (fun q => hc (by rw [q]; decide)) (fun q => hc (by rw [q]; decide)) (fun q => hc (by rw [q]; decide))
  have hst833 := st_shut (g := g) (u1 := u803) (u2 := u826) (r1 := x805) (r2 := x828) hRL hw808 hw832 hq806.v hq830.v
  have hrr834 := hst833.2
  refine lv_pop hx hb dL_law_764 rfl ?_
  refine lv_goto (tgt := 1047) hx hb dL_law_765 (by decide) ?_
  obtain ⟨x835, h836⟩ : ∃ y : Int32, y = i + Int32.ofInt (6) := ⟨_, rfl⟩
  try have h837 : x835.toInt = i.toInt + (6) := ty_inc h836 (by decide) (by omega) (by omega)
  refine lv_iinc (v := x835) (lv' := [(4, .int x835), (3, .ref q29), (2, .ref q13), (1, .ref q1), (0, .ref b)]) hx hb dL_law_1047 hl (k := 0) rfl h836.symm (by decide) rfl (fun ls hl => ?_)
  refine lv_goto (tgt := 23) hx hb dL_law_1050 (by decide) ?_
  exact ih x835 Γ u826 (kc) (ks) _ _ ls (by omega) (by omega) (by have a9 := congrFun (hw832 4 (by decide)) 0; have b9 := congrFun (hw808 4 (by decide)) 0; omega) hst833.1 hq829 (Bd_e hb809 (hw832 33 (by decide)) (hw832 34 (by decide)) (hw832 35 (by decide))) hU t_q1 t_q13 t_q29 (by omega) (by omega) hG hS (lv_sub hl [0, 1, 2, 3, 4] rfl)
