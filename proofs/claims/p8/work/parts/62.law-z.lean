set_option maxHeartbeats 40000000 in
set_option maxRecDepth 100000 in
/-- the law's loop -/
theorem law_loop {p : Program} {e : Env} {s : State} {m : MethodId} {below : List Frame} {meth : Method} {c : Code} (l : Launch) (hl9 : l.stackTraces = false) {b L : Nat} {xs : Nat → Int32} (hLN : L ≤ 3072) (hx : p.tables.exec = Jvm.exec) (hb : c.code = code) (hr : meth.sig.returnType = ret) (hml : c.maxLocals = 7) (hown : s.vm.findClass R_law = some m.cls) (hA : ∀ w ∈ AL, w.before #[Value.ref b] s = true) (hXs : va_X b L xs s s.heap) (hbl : b < s.heap.size) (hlocks : meth.locks = false) {dC : Nat → ClassId} {dI : Nat → Nat → Nat} {dA : Nat → ClassId} {sz : Nat} (hE : en dC dI dA sz s) (hsz : sz = s.heap.size) (hbA : ¬ ty_A sz b) (X : va_W) (q1 q12 q25 : Nat) : ∀ n, LJ p l e s m below meth c b dC dI dA sz X q1 q12 q25 n := by
  intro n
  induction n with
  | zero => intro i Γ g kc ks H locs ls hm hi0 hi1 hi2 hi3 hi4 hi5 hi6 hi7 hi8 hi9 hi10 hi11 hi12 hi13 hi14 hi15 hi16 hIJ hTE hU t_q1 t_q12 t_q25 hkc hks hG hS hl; exfalso; omega
  | succ n ih =>
    intro i Γ g kc ks H locs ls hm hi0 hi1 hi2 hi3 hi4 hi5 hi6 hi7 hi8 hi9 hi10 hi11 hi12 hi13 hi14 hi15 hi16 hIJ hTE hU t_q1 t_q12 t_q25 hkc hks hG hS hl
    refine lv_iload hx hb dL_law_23 (lv_at hl 0 rfl) ?_
    refine lv_aload_n hx hb dL_law_25 rfl (lv_at hl 4 rfl) ?_
    refine va_slen hx hb hXs hbl hbA hS dL_law_26 ?_
    refine lv_topi (fun x56 h57 => ?_)
    have h58 := lw_len h57 hLN
    refine ty_bipush hx hb (6) dL_law_27 (by decide) (fun x59 h60 => ?_)
    refine ty_isub hx hb dL_law_29 (fun x61 h62 => ?_)
    try have h63 : x61.toInt = x56.toInt - x59.toInt := ty_sub h62 (by omega) (by omega)
    refine ty_icmp_gt (tgt := 1053) hx hb dL_law_30 (by decide) (fun c64 => ?_) (fun c64 => ?_)
    · skip
      refine ty_iconst hx hb (1) dL_law_1053 (by decide) (fun x65 h66 => ?_)
      obtain rfl : x65 = 1 := ty_eq32.mpr (by rw [Int32.toInt_one]; omega)
      refine va_forget (fun q hq => hsz ▸ hS.2.2 q hq) ?_
      refine W.widen (k := 601024) (n := 7293034) (Nat.le_trans (show kc ≤ 300000 by omega) (Nat.le_of_ble_eq_true rfl)) (Nat.le_trans (show ks ≤ 300000 by omega) (Nat.le_of_ble_eq_true rfl)) ?_
      exact lw_ret hx hb hr hlocks dL_law_1054
    · skip
      refine lv_aload_n hx hb dL_law_33 rfl (lv_at hl 4 rfl) ?_
      refine lv_iload hx hb dL_law_34 (lv_at hl 0 rfl) ?_
      refine va_sld hx hb hXs hbl hbA hS (i := i) (ty_ix (by omega)) dL_law_36 ?_
      refine lv_topi (fun x67 s68 => ?_)
      refine ty_bipush hx hb (31) dL_law_37 (by decide) (fun x69 h70 => ?_)
      refine ty_iand hx hb dL_law_39 (fun x71 h72 => ?_)
      by_cases c73 : x71.toInt < 0 ∨ 23 < x71.toInt
      · skip
        refine lv_tableOut (tgt := 1047) hx hb dL_law_40 c73 (by decide) ?_
        obtain ⟨x74, h75⟩ : ∃ y : Int32, y = i + Int32.ofInt (6) := ⟨_, rfl⟩
        try have h76 : x74.toInt = i.toInt + (6) := ty_inc h75 (by decide) (by omega) (by omega)
        refine lv_iinc (v := x74) (lv' := [(4, .int x74), (3, .ref q25), (2, .ref q12), (1, .ref q1), (0, .ref b)]) hx hb dL_law_1047 hl (k := 0) rfl h75.symm (by decide) rfl (fun ls hl => ?_)
        refine lv_goto (tgt := 23) hx hb dL_law_1050 (by decide) ?_
        exact ih x74 Γ g (kc) (ks) _ _ ls (by omega) (by omega) hi1 hi2 hi3 hi4 (by omega) hi6 hi7 hi8 hi9 hi10 hi11 hi12 hi13 hi14 hi15 hi16 (by (repeat (first | with_reducible assumption | (refine IJ_c (by decide) (by decide) (by decide) ?_) | (refine IJ_take (by omega) (by omega) ?_) | (refine IJ_how (by omega) ?_) | (refine IJ_by (by omega) ?_)))) hTE hU t_q1 t_q12 t_q25 (by omega) (by omega) hG hS (lv_sub hl [0, 1, 2, 3, 4] rfl)
      · skip
        rcases (show x71.toInt = 0 ∨ x71.toInt = 1 ∨ x71.toInt = 2 ∨ x71.toInt = 3 ∨ x71.toInt = 4 ∨ x71.toInt = 5 ∨ x71.toInt = 6 ∨ x71.toInt = 7 ∨ x71.toInt = 8 ∨ x71.toInt = 9 ∨ x71.toInt = 10 ∨ x71.toInt = 11 ∨ x71.toInt = 12 ∨ x71.toInt = 13 ∨ x71.toInt = 14 ∨ x71.toInt = 15 ∨ x71.toInt = 16 ∨ x71.toInt = 17 ∨ x71.toInt = 18 ∨ x71.toInt = 19 ∨ x71.toInt = 20 ∨ x71.toInt = 21 ∨ x71.toInt = 22 ∨ x71.toInt = 23 by omega) with q77 | q78 | q79 | q80 | q81 | q82 | q83 | q84 | q85 | q86 | q87 | q88 | q89 | q90 | q91 | q92 | q93 | q94 | q95 | q96 | q97 | q98 | q99 | q100
        · skip
          refine lv_tableIn (tgt := 152) (off := 112) hx hb dL_law_40 (by omega) (by omega) (by rw [q77]; rfl) (by decide) ?_
          exact law_c0 l hl9 hLN hx hb hr hml hown hA hXs hbl hlocks hE hsz hbA X q1 q12 q25 n ih i Γ g kc ks _ _ ls hm hi0 hi1 hi2 hi3 hi4 hi5 hi6 hi7 hi8 hi9 hi10 hi11 hi12 hi13 hi14 hi15 hi16 hIJ hTE hU t_q1 t_q12 t_q25 hkc hks hG hS hl (by omega)
        · skip
          refine lv_tableIn (tgt := 189) (off := 149) hx hb dL_law_40 (by omega) (by omega) (by rw [q78]; rfl) (by decide) ?_
          exact law_c1 l hl9 hLN hx hb hr hml hown hA hXs hbl hlocks hE hsz hbA X q1 q12 q25 n ih i Γ g kc ks _ _ ls hm hi0 hi1 hi2 hi3 hi4 hi5 hi6 hi7 hi8 hi9 hi10 hi11 hi12 hi13 hi14 hi15 hi16 hIJ hTE hU t_q1 t_q12 t_q25 hkc hks hG hS hl (by omega)
        · skip
          refine lv_tableIn (tgt := 214) (off := 174) hx hb dL_law_40 (by omega) (by omega) (by rw [q79]; rfl) (by decide) ?_
          exact law_c2 l hl9 hLN hx hb hr hml hown hA hXs hbl hlocks hE hsz hbA X q1 q12 q25 n ih i Γ g kc ks _ _ ls hm hi0 hi1 hi2 hi3 hi4 hi5 hi6 hi7 hi8 hi9 hi10 hi11 hi12 hi13 hi14 hi15 hi16 hIJ hTE hU t_q1 t_q12 t_q25 hkc hks hG hS hl (by omega)
        · skip
          refine lv_tableIn (tgt := 263) (off := 223) hx hb dL_law_40 (by omega) (by omega) (by rw [q80]; rfl) (by decide) ?_
          exact law_c3 l hl9 hLN hx hb hr hml hown hA hXs hbl hlocks hE hsz hbA X q1 q12 q25 n ih i Γ g kc ks _ _ ls hm hi0 hi1 hi2 hi3 hi4 hi5 hi6 hi7 hi8 hi9 hi10 hi11 hi12 hi13 hi14 hi15 hi16 hIJ hTE hU t_q1 t_q12 t_q25 hkc hks hG hS hl (by omega)
        · skip
          refine lv_tableIn (tgt := 336) (off := 296) hx hb dL_law_40 (by omega) (by omega) (by rw [q81]; rfl) (by decide) ?_
          exact law_c4 l hl9 hLN hx hb hr hml hown hA hXs hbl hlocks hE hsz hbA X q1 q12 q25 n ih i Γ g kc ks _ _ ls hm hi0 hi1 hi2 hi3 hi4 hi5 hi6 hi7 hi8 hi9 hi10 hi11 hi12 hi13 hi14 hi15 hi16 hIJ hTE hU t_q1 t_q12 t_q25 hkc hks hG hS hl (by omega)
        · skip
          refine lv_tableIn (tgt := 361) (off := 321) hx hb dL_law_40 (by omega) (by omega) (by rw [q82]; rfl) (by decide) ?_
          exact law_c5 l hl9 hLN hx hb hr hml hown hA hXs hbl hlocks hE hsz hbA X q1 q12 q25 n ih i Γ g kc ks _ _ ls hm hi0 hi1 hi2 hi3 hi4 hi5 hi6 hi7 hi8 hi9 hi10 hi11 hi12 hi13 hi14 hi15 hi16 hIJ hTE hU t_q1 t_q12 t_q25 hkc hks hG hS hl (by omega)
        · skip
          refine lv_tableIn (tgt := 374) (off := 334) hx hb dL_law_40 (by omega) (by omega) (by rw [q83]; rfl) (by decide) ?_
          exact law_c6 l hl9 hLN hx hb hr hml hown hA hXs hbl hlocks hE hsz hbA X q1 q12 q25 n ih i Γ g kc ks _ _ ls hm hi0 hi1 hi2 hi3 hi4 hi5 hi6 hi7 hi8 hi9 hi10 hi11 hi12 hi13 hi14 hi15 hi16 hIJ hTE hU t_q1 t_q12 t_q25 hkc hks hG hS hl (by omega)
        · skip
          refine lv_tableIn (tgt := 387) (off := 347) hx hb dL_law_40 (by omega) (by omega) (by rw [q84]; rfl) (by decide) ?_
          exact law_c7 l hl9 hLN hx hb hr hml hown hA hXs hbl hlocks hE hsz hbA X q1 q12 q25 n ih i Γ g kc ks _ _ ls hm hi0 hi1 hi2 hi3 hi4 hi5 hi6 hi7 hi8 hi9 hi10 hi11 hi12 hi13 hi14 hi15 hi16 hIJ hTE hU t_q1 t_q12 t_q25 hkc hks hG hS hl (by omega)
        · skip
          refine lv_tableIn (tgt := 424) (off := 384) hx hb dL_law_40 (by omega) (by omega) (by rw [q85]; rfl) (by decide) ?_
          exact law_c8 l hl9 hLN hx hb hr hml hown hA hXs hbl hlocks hE hsz hbA X q1 q12 q25 n ih i Γ g kc ks _ _ ls hm hi0 hi1 hi2 hi3 hi4 hi5 hi6 hi7 hi8 hi9 hi10 hi11 hi12 hi13 hi14 hi15 hi16 hIJ hTE hU t_q1 t_q12 t_q25 hkc hks hG hS hl (by omega)
        · skip
          refine lv_tableIn (tgt := 473) (off := 433) hx hb dL_law_40 (by omega) (by omega) (by rw [q86]; rfl) (by decide) ?_
          exact law_c9 l hl9 hLN hx hb hr hml hown hA hXs hbl hlocks hE hsz hbA X q1 q12 q25 n ih i Γ g kc ks _ _ ls hm hi0 hi1 hi2 hi3 hi4 hi5 hi6 hi7 hi8 hi9 hi10 hi11 hi12 hi13 hi14 hi15 hi16 hIJ hTE hU t_q1 t_q12 t_q25 hkc hks hG hS hl (by omega)
        · skip
          refine lv_tableIn (tgt := 546) (off := 506) hx hb dL_law_40 (by omega) (by omega) (by rw [q87]; rfl) (by decide) ?_
          exact law_c10 l hl9 hLN hx hb hr hml hown hA hXs hbl hlocks hE hsz hbA X q1 q12 q25 n ih i Γ g kc ks _ _ ls hm hi0 hi1 hi2 hi3 hi4 hi5 hi6 hi7 hi8 hi9 hi10 hi11 hi12 hi13 hi14 hi15 hi16 hIJ hTE hU t_q1 t_q12 t_q25 hkc hks hG hS hl (by omega)
        · skip
          refine lv_tableIn (tgt := 619) (off := 579) hx hb dL_law_40 (by omega) (by omega) (by rw [q88]; rfl) (by decide) ?_
          exact law_c11 l hl9 hLN hx hb hr hml hown hA hXs hbl hlocks hE hsz hbA X q1 q12 q25 n ih i Γ g kc ks _ _ ls hm hi0 hi1 hi2 hi3 hi4 hi5 hi6 hi7 hi8 hi9 hi10 hi11 hi12 hi13 hi14 hi15 hi16 hIJ hTE hU t_q1 t_q12 t_q25 hkc hks hG hS hl (by omega)
        · skip
          refine lv_tableIn (tgt := 644) (off := 604) hx hb dL_law_40 (by omega) (by omega) (by rw [q89]; rfl) (by decide) ?_
          exact law_c12 l hl9 hLN hx hb hr hml hown hA hXs hbl hlocks hE hsz hbA X q1 q12 q25 n ih i Γ g kc ks _ _ ls hm hi0 hi1 hi2 hi3 hi4 hi5 hi6 hi7 hi8 hi9 hi10 hi11 hi12 hi13 hi14 hi15 hi16 hIJ hTE hU t_q1 t_q12 t_q25 hkc hks hG hS hl (by omega)
        · skip
          refine lv_tableIn (tgt := 669) (off := 629) hx hb dL_law_40 (by omega) (by omega) (by rw [q90]; rfl) (by decide) ?_
          exact law_c13 l hl9 hLN hx hb hr hml hown hA hXs hbl hlocks hE hsz hbA X q1 q12 q25 n ih i Γ g kc ks _ _ ls hm hi0 hi1 hi2 hi3 hi4 hi5 hi6 hi7 hi8 hi9 hi10 hi11 hi12 hi13 hi14 hi15 hi16 hIJ hTE hU t_q1 t_q12 t_q25 hkc hks hG hS hl (by omega)
        · skip
          refine lv_tableIn (tgt := 706) (off := 666) hx hb dL_law_40 (by omega) (by omega) (by rw [q91]; rfl) (by decide) ?_
          exact law_c14 l hl9 hLN hx hb hr hml hown hA hXs hbl hlocks hE hsz hbA X q1 q12 q25 n ih i Γ g kc ks _ _ ls hm hi0 hi1 hi2 hi3 hi4 hi5 hi6 hi7 hi8 hi9 hi10 hi11 hi12 hi13 hi14 hi15 hi16 hIJ hTE hU t_q1 t_q12 t_q25 hkc hks hG hS hl (by omega)
        · skip
          refine lv_tableIn (tgt := 719) (off := 679) hx hb dL_law_40 (by omega) (by omega) (by rw [q92]; rfl) (by decide) ?_
          exact law_c15 l hl9 hLN hx hb hr hml hown hA hXs hbl hlocks hE hsz hbA X q1 q12 q25 n ih i Γ g kc ks _ _ ls hm hi0 hi1 hi2 hi3 hi4 hi5 hi6 hi7 hi8 hi9 hi10 hi11 hi12 hi13 hi14 hi15 hi16 hIJ hTE hU t_q1 t_q12 t_q25 hkc hks hG hS hl (by omega)
        · skip
          refine lv_tableIn (tgt := 768) (off := 728) hx hb dL_law_40 (by omega) (by omega) (by rw [q93]; rfl) (by decide) ?_
          exact law_c16 l hl9 hLN hx hb hr hml hown hA hXs hbl hlocks hE hsz hbA X q1 q12 q25 n ih i Γ g kc ks _ _ ls hm hi0 hi1 hi2 hi3 hi4 hi5 hi6 hi7 hi8 hi9 hi10 hi11 hi12 hi13 hi14 hi15 hi16 hIJ hTE hU t_q1 t_q12 t_q25 hkc hks hG hS hl (by omega)
        · skip
          refine lv_tableIn (tgt := 793) (off := 753) hx hb dL_law_40 (by omega) (by omega) (by rw [q94]; rfl) (by decide) ?_
          exact law_c17 l hl9 hLN hx hb hr hml hown hA hXs hbl hlocks hE hsz hbA X q1 q12 q25 n ih i Γ g kc ks _ _ ls hm hi0 hi1 hi2 hi3 hi4 hi5 hi6 hi7 hi8 hi9 hi10 hi11 hi12 hi13 hi14 hi15 hi16 hIJ hTE hU t_q1 t_q12 t_q25 hkc hks hG hS hl (by omega)
        · skip
          refine lv_tableIn (tgt := 806) (off := 766) hx hb dL_law_40 (by omega) (by omega) (by rw [q95]; rfl) (by decide) ?_
          exact law_c18 l hl9 hLN hx hb hr hml hown hA hXs hbl hlocks hE hsz hbA X q1 q12 q25 n ih i Γ g kc ks _ _ ls hm hi0 hi1 hi2 hi3 hi4 hi5 hi6 hi7 hi8 hi9 hi10 hi11 hi12 hi13 hi14 hi15 hi16 hIJ hTE hU t_q1 t_q12 t_q25 hkc hks hG hS hl (by omega)
        · skip
          refine lv_tableIn (tgt := 871) (off := 831) hx hb dL_law_40 (by omega) (by omega) (by rw [q96]; rfl) (by decide) ?_
          exact law_c19 l hl9 hLN hx hb hr hml hown hA hXs hbl hlocks hE hsz hbA X q1 q12 q25 n ih i Γ g kc ks _ _ ls hm hi0 hi1 hi2 hi3 hi4 hi5 hi6 hi7 hi8 hi9 hi10 hi11 hi12 hi13 hi14 hi15 hi16 hIJ hTE hU t_q1 t_q12 t_q25 hkc hks hG hS hl (by omega)
        · skip
          refine lv_tableIn (tgt := 908) (off := 868) hx hb dL_law_40 (by omega) (by omega) (by rw [q97]; rfl) (by decide) ?_
          exact law_c20 l hl9 hLN hx hb hr hml hown hA hXs hbl hlocks hE hsz hbA X q1 q12 q25 n ih i Γ g kc ks _ _ ls hm hi0 hi1 hi2 hi3 hi4 hi5 hi6 hi7 hi8 hi9 hi10 hi11 hi12 hi13 hi14 hi15 hi16 hIJ hTE hU t_q1 t_q12 t_q25 hkc hks hG hS hl (by omega)
        · skip
          refine lv_tableIn (tgt := 945) (off := 905) hx hb dL_law_40 (by omega) (by omega) (by rw [q98]; rfl) (by decide) ?_
          exact law_c21 l hl9 hLN hx hb hr hml hown hA hXs hbl hlocks hE hsz hbA X q1 q12 q25 n ih i Γ g kc ks _ _ ls hm hi0 hi1 hi2 hi3 hi4 hi5 hi6 hi7 hi8 hi9 hi10 hi11 hi12 hi13 hi14 hi15 hi16 hIJ hTE hU t_q1 t_q12 t_q25 hkc hks hG hS hl (by omega)
        · skip
          refine lv_tableIn (tgt := 985) (off := 945) hx hb dL_law_40 (by omega) (by omega) (by rw [q99]; rfl) (by decide) ?_
          exact law_c22 l hl9 hLN hx hb hr hml hown hA hXs hbl hlocks hE hsz hbA X q1 q12 q25 n ih i Γ g kc ks _ _ ls hm hi0 hi1 hi2 hi3 hi4 hi5 hi6 hi7 hi8 hi9 hi10 hi11 hi12 hi13 hi14 hi15 hi16 hIJ hTE hU t_q1 t_q12 t_q25 hkc hks hG hS hl (by omega)
        · skip
          refine lv_tableIn (tgt := 1022) (off := 982) hx hb dL_law_40 (by omega) (by omega) (by rw [q100]; rfl) (by decide) ?_
          exact law_c23 l hl9 hLN hx hb hr hml hown hA hXs hbl hlocks hE hsz hbA X q1 q12 q25 n ih i Γ g kc ks _ _ ls hm hi0 hi1 hi2 hi3 hi4 hi5 hi6 hi7 hi8 hi9 hi10 hi11 hi12 hi13 hi14 hi15 hi16 hIJ hTE hU t_q1 t_q12 t_q25 hkc hks hG hS hl (by omega)
set_option maxHeartbeats 40000000 in
set_option maxRecDepth 100000 in
/-- the law, from its entry -/
theorem whole_start {p : Program} {e : Env} {s : State} {m : MethodId} {below : List Frame} {meth : Method} {c : Code} (l : Launch) (hl9 : l.stackTraces = false) {b L : Nat} {xs : Nat → Int32} (hLN : L ≤ 3072) (C0 : lw_At p s m meth c b L xs) : W p l e room_1 s m #[Value.ref b] below meth c s.heap [] 0 0 (lw_Z below #[Value.ref b] s) (entryFrame m ([Value.ref b] : List Value).toArray 7) := by
  obtain ⟨hx, hb, hr, hml, hown, hts, hXs, hbl, hlocks, hgv⟩ := C0
  have hA : ∀ w ∈ AL, w.before #[Value.ref b] s = true := fun w h => hts w (al_in h)
  obtain ⟨dC, dI, dA, hE⟩ := en_start hts hgv
  obtain ⟨sz, hsz⟩ : ∃ z, z = s.heap.size := ⟨_, rfl⟩
  rw [← hsz] at hE
  have hbA : ¬ ty_A sz b := by rw [hsz]; exact Nat.not_le.mpr hbl
  obtain ⟨X, eX⟩ : ∃ z : va_W, z = [] := ⟨_, rfl⟩
  obtain ⟨Γ, eΓ⟩ : ∃ z : ty_G, z = fun _ => (0, 0) := ⟨_, rfl⟩
  obtain ⟨g, eg⟩ : ∃ z : gh, z = lw_g := ⟨_, rfl⟩
  have hU : Un Γ := by rw [eΓ]; exact ⟨fun a b _ h => absurd (show sg 0 = true from h) (by decide), fun a b _ h => absurd (show sg2 0 = true from h) (by decide)⟩
  have hL0 : tyIn Γ [] := by rw [eΓ]; exact fun a h => absurd rfl h
  have hG : ty_ok (dC, dI) vwCl Γ (TP dA Γ g) sz X s.heap := by rw [eΓ, eX, hsz]; exact ⟨Nat.le_refl _, fun a h => absurd rfl h, List.nodup_nil, fun _ h => nomatch h⟩
  have zg : ∀ c j : Nat, c = 19 ∨ c = 33 ∨ c = 34 ∨ c = 35 ∨ c = 36 → g c j = 0 := by rw [eg]; intro c j h; rcases h with rfl | rfl | rfl | rfl | rfl <;> rfl
  have zz : g 1 0 = 0 ∧ g 2 0 = 0 ∧ g 3 0 = 0 ∧ g 4 0 = 0 ∧ g 5 0 = 0 ∧ g 7 0 = 0 ∧ g 8 0 = 0 ∧ g 30 0 = 0 ∧ g 31 0 = 0 ∧ g 32 0 = 0 ∧ g 6 0 = 0 ∧ g 9 0 = 0 ∧ g 16 0 = 0 ∧ g 15 0 = 0 ∧ g 17 0 = 0 ∧ g 18 0 = 0 ∧ g 33 0 = 0 ∧ g 34 0 = 0 ∧ g 35 0 = 0 ∧ g 36 0 = 0 ∧ g 13 0 = 0 ∧ g 10 0 = 0 ∧ g 11 0 = 0 ∧ g 10 1 = 0 ∧ g 11 1 = 0 ∧ g 14 0 = -1 ∧ g 12 0 = 1 := by rw [eg]; exact ⟨rfl, rfl, rfl, rfl, rfl, rfl, rfl, rfl, rfl, rfl, rfl, rfl, rfl, rfl, rfl, rfl, rfl, rfl, rfl, rfl, rfl, rfl, rfl, rfl, rfl, rfl, rfl⟩
  have z100 : ∀ c j : Nat, 100 ≤ c ∧ c ≠ 121 → g c j = 0 := by rw [eg]; intro c j h; simp only [lw_g]; rw [if_neg (by omega), if_neg (by omega)]
  have zm : g 101 0 = 0 ∧ g 104 0 = 0 ∧ g 126 0 = 0 ∧ g 122 0 = 0 ∧ g 111 0 = 0 ∧ g 112 0 = 0 ∧ g 114 0 = 0 ∧ g 118 0 = 0 ∧ g 121 0 = -1 := by rw [eg]; exact ⟨rfl, rfl, rfl, rfl, rfl, rfl, rfl, rfl, rfl⟩
  clear eΓ eX eg
  have hS : va_S (ty_A sz) s.heap s.heap [] := va_S.rf
  have hl := lv_entry ([.ref b]) (n := 7) (Nat.le_of_ble_eq_true rfl)
  rw [lg_entry_eq]
  generalize (lg_sl ([.ref b]) ++ List.replicate (7 - (lg_sl ([.ref b])).length) Slot.unset).toArray = ls at hl ⊢
  have hl : lv_has ls 7 [(0, .ref b)] := hl
  refine new_X8 hx hb hA hE hG hS hown wd_1_22 wd_1_23 wd_1_1 (Nat.le_of_ble_eq_true rfl) (Nat.le_of_ble_eq_true rfl) dL_law_0 (fun q1 H z_q1 s_q1 e_q1 hG hS => ?_)
  clear z_q1 s_q1 e_q1
  refine lv_dup hx hb dL_law_3 rfl ?_
  refine cVB (va_runI (As := []) (rest := [.ref q1]) ⟨hx, hb, hml, hown, hA⟩ (k_X8_init l dC dI dA sz X Γ hU g q1  hL0 (fun c j h => zg c j (by omega)) (by omega) (by first | with_reducible assumption | omega)) ⟨callB_of 0 hA (al_A wd_1_26) rfl rfl rfl (hA _ wd_1_1) (hA _ wd_1_24) (by decide +kernel) ⟨Nat.le_of_ble_eq_true rfl, Nat.le_of_ble_eq_true rfl⟩, rfl, hA _ wd_1_25⟩ ⟨bl, fun U hU9 hW9 => ⟨rfl, by rw [hU9]; exact hG, hE.go hS hU9 hW9⟩⟩ rfl rfl hl.1 rfl (lv_room (Nat.le_of_ble_eq_true rfl)) dL_law_4 ⟨Nat.le_of_ble_eq_true rfl, Nat.le_of_ble_eq_true rfl⟩) hS (fun u2 H locs w3 hG hS => ?_)
  obtain ⟨Γ4, g5⟩ := u2
  dsimp only at w3 hG
  obtain ⟨hx6, hU, hL7, t_q1, eu10⟩ := w3
  rw [eu10] at hG
  replace t_q1 : ty Γ4 q1 1 := t_q1
  have hL7 : tyIn Γ4 ((1, 0) :: ((9, 0) :: ((24, 0) :: ((23, 0) :: ((23, 0) :: ((8, 0) :: ((22, 0) :: ((22, 0) :: ((21, 0) :: ((20, 0) :: ((19, 0) :: ((6, 1) :: ((26, 1) :: ((17, 1) :: ((16, 1) :: ((6, 0) :: ((26, 0) :: ((17, 0) :: ((16, 0) :: ((7, 0) :: ((18, 0) :: ((12, 0) :: ((11, 0) :: ((10, 0) :: [])))))))))))))))))))))))) := hL7
  have hX11 : ext Γ Γ4 := ext.trans ext.rf hx6
  refine lv_astore_n (lv' := [(1, .ref q1), (0, .ref b)]) hx hb dL_law_7 rfl hl (by decide) rfl (fun ls hl => ?_)
  refine new_X9 hx hb hA hE hG hS hown wd_4_124 wd_4_125 wd_1_7 (Nat.le_of_ble_eq_true rfl) (Nat.le_of_ble_eq_true rfl) dL_law_8 (fun q12 H z_q12 s_q12 e_q12 hG hS => ?_)
  clear z_q12 s_q12 e_q12
  refine lv_dup hx hb dL_law_11 rfl ?_
  refine cVB (va_runI (As := []) (rest := [.ref q12]) ⟨hx, hb, hml, hown, hA⟩ (k_X9_init l dC dI dA sz X Γ4 hU g q12  ((1, 0) :: ((9, 0) :: ((24, 0) :: ((23, 0) :: ((23, 0) :: ((8, 0) :: ((22, 0) :: ((22, 0) :: ((21, 0) :: ((20, 0) :: ((19, 0) :: ((6, 1) :: ((26, 1) :: ((17, 1) :: ((16, 1) :: ((6, 0) :: ((26, 0) :: ((17, 0) :: ((16, 0) :: ((7, 0) :: ((18, 0) :: ((12, 0) :: ((11, 0) :: ((10, 0) :: [])))))))))))))))))))))))) hL7 (by decide)  (fun c j h => z100 c j h) (by first | with_reducible assumption | omega)) ⟨callB_of 0 hA (al_A wd_4_128) rfl rfl rfl (hA _ wd_1_7) (hA _ wd_4_126) (by decide +kernel) ⟨Nat.le_of_ble_eq_true rfl, Nat.le_of_ble_eq_true rfl⟩, rfl, hA _ wd_4_127⟩ ⟨bl, fun U hU9 hW9 => ⟨rfl, by rw [hU9]; exact hG, hE.go hS hU9 hW9⟩⟩ rfl rfl hl.1 rfl (lv_room (Nat.le_of_ble_eq_true rfl)) dL_law_12 ⟨Nat.le_of_ble_eq_true rfl, Nat.le_of_ble_eq_true rfl⟩) hS (fun u13 H locs w14 hG hS => ?_)
  obtain ⟨Γ15, g16⟩ := u13
  dsimp only at w14 hG
  obtain ⟨hx17, hU, hL18, t_q12, hf19⟩ := w14
  replace t_q12 : ty Γ15 q12 30 := t_q12
  have hL18 : tyIn Γ15 ((30, 0) :: ((146, 0) :: ((145, 0) :: ((144, 0) :: ((140, 0) :: ((139, 0) :: ((138, 0) :: ((136, 0) :: ((135, 0) :: ((134, 0) :: ((133, 0) :: ((132, 0) :: ((131, 0) :: ((130, 0) :: ((129, 0) :: ((128, 0) :: ((127, 0) :: ((125, 0) :: ((123, 0) :: ((113, 0) :: ((110, 0) :: ((109, 0) :: ((108, 0) :: ((107, 0) :: ((106, 0) :: ((105, 0) :: ((103, 0) :: ((102, 0) :: ((1, 0) :: ((9, 0) :: ((24, 0) :: ((23, 0) :: ((23, 0) :: ((8, 0) :: ((22, 0) :: ((22, 0) :: ((21, 0) :: ((20, 0) :: ((19, 0) :: ((6, 1) :: ((26, 1) :: ((17, 1) :: ((16, 1) :: ((6, 0) :: ((26, 0) :: ((17, 0) :: ((16, 0) :: ((7, 0) :: ((18, 0) :: ((12, 0) :: ((11, 0) :: ((10, 0) :: [])))))))))))))))))))))))))))))))))))))))))))))))))))) := hL18
  have hX22 : ext Γ Γ15 := ext.trans hX11 hx17
  replace t_q1 : ty Γ15 q1 1 := hx17.one t_q1 (by decide)
  refine lv_astore_n (lv' := [(2, .ref q12), (1, .ref q1), (0, .ref b)]) hx hb dL_law_15 rfl hl (by decide) rfl (fun ls hl => ?_)
  refine ty_iconst hx hb (1) dL_law_16 (by decide) (fun x23 h24 => ?_)
  refine new_J hx hb hA hE hG hS wd_5_239 (N := 1) (by omega) (by decide) (Nat.le_of_ble_eq_true rfl) (Nat.le_of_ble_eq_true rfl) (25, 0) (fun Γ' => by rw [TP_25 rfl]; exact ⟨_, rfl⟩) dL_law_17 (fun q25 H z_q25 s_q25 e_q25 hG hS => ?_)
  obtain ⟨Γ26, eΓ26⟩ : ∃ z, z = va_up Γ15 q25 (25, 0) := ⟨_, rfl⟩
  rw [← eΓ26] at hG
  have hx27 : ext Γ15 Γ26 := by rw [eΓ26]; exact ext.up z_q25
  have hU : Un Γ26 := by rw [eΓ26]; exact Un.up0 hU rfl rfl
  have hL28 : tyIn Γ26 ((25, 0) :: ((30, 0) :: ((146, 0) :: ((145, 0) :: ((144, 0) :: ((140, 0) :: ((139, 0) :: ((138, 0) :: ((136, 0) :: ((135, 0) :: ((134, 0) :: ((133, 0) :: ((132, 0) :: ((131, 0) :: ((130, 0) :: ((129, 0) :: ((128, 0) :: ((127, 0) :: ((125, 0) :: ((123, 0) :: ((113, 0) :: ((110, 0) :: ((109, 0) :: ((108, 0) :: ((107, 0) :: ((106, 0) :: ((105, 0) :: ((103, 0) :: ((102, 0) :: ((1, 0) :: ((9, 0) :: ((24, 0) :: ((23, 0) :: ((23, 0) :: ((8, 0) :: ((22, 0) :: ((22, 0) :: ((21, 0) :: ((20, 0) :: ((19, 0) :: ((6, 1) :: ((26, 1) :: ((17, 1) :: ((16, 1) :: ((6, 0) :: ((26, 0) :: ((17, 0) :: ((16, 0) :: ((7, 0) :: ((18, 0) :: ((12, 0) :: ((11, 0) :: ((10, 0) :: []))))))))))))))))))))))))))))))))))))))))))))))))))))) := by rw [eΓ26]; exact hL18.up
  have hX29 : ext Γ Γ26 := ext.trans hX22 hx27
  replace t_q12 : ty Γ26 q12 30 := hx27.one t_q12 (by decide)
  replace t_q1 : ty Γ26 q1 1 := hx27.one t_q1 (by decide)
  have t_q25 : ty Γ26 q25 25 := by rw [eΓ26]; unfold ty; rw [va_up_self]
  clear z_q25 s_q25 e_q25
  refine lv_astore_n (lv' := [(3, .ref q25), (2, .ref q12), (1, .ref q1), (0, .ref b)]) hx hb dL_law_19 rfl hl (by decide) rfl (fun ls hl => ?_)
  refine ty_iconst hx hb (0) dL_law_20 (by decide) (fun x30 h31 => ?_)
  refine lv_istore (lv' := [(4, .int x30), (3, .ref q25), (2, .ref q12), (1, .ref q1), (0, .ref b)]) hx hb dL_law_21 hl (by decide) rfl (fun ls hl => ?_)
  have hk32 : g16 1 0 = g 1 0 := hf19 1 0 (by decide)
  have hk33 : g16 2 0 = g 2 0 := hf19 2 0 (by decide)
  have hk34 : g16 3 0 = g 3 0 := hf19 3 0 (by decide)
  have hk35 : g16 4 0 = g 4 0 := hf19 4 0 (by decide)
  have hk36 : g16 5 0 = g 5 0 := hf19 5 0 (by decide)
  have hk37 : g16 6 0 = g 6 0 := hf19 6 0 (by decide)
  have hk38 : g16 7 0 = g 7 0 := hf19 7 0 (by decide)
  have hk39 : g16 14 0 = g 14 0 := hf19 14 0 (by decide)
  have hk40 : g16 18 0 = g 18 0 := hf19 18 0 (by decide)
  have hk41 : g16 33 0 = g 33 0 := hf19 33 0 (by decide)
  have hk42 : g16 34 0 = g 34 0 := hf19 34 0 (by decide)
  have hk43 : g16 35 0 = g 35 0 := hf19 35 0 (by decide)
  have hk44 : g16 36 0 = g 36 0 := hf19 36 0 (by decide)
  have hk45 : g16 101 0 = g 101 0 := hf19 101 0 (by decide)
  have hk46 : g16 104 0 = g 104 0 := hf19 104 0 (by decide)
  have hk47 : g16 111 0 = g 111 0 := hf19 111 0 (by decide)
  have hk48 : g16 112 0 = g 112 0 := hf19 112 0 (by decide)
  have hk49 : g16 114 0 = g 114 0 := hf19 114 0 (by decide)
  have hk50 : g16 118 0 = g 118 0 := hf19 118 0 (by decide)
  have hk51 : g16 121 0 = g 121 0 := hf19 121 0 (by decide)
  have hk52 : g16 122 0 = g 122 0 := hf19 122 0 (by decide)
  have hk53 : g16 126 0 = g 126 0 := hf19 126 0 (by decide)
  have hj54 : IJ g16 := IJ_zero (fun j => by rw [hf19 132 j (by decide)]; exact z100 132 j (by decide)) (by rw [hf19 126 0 (by decide)]; exact z100 126 0 (by decide))
  have hj55 : pz_t g16 = g16 19 := funext fun j => by show g16 113 j % 256 = g16 19 j; rw [hf19 113 j (by decide), hf19 19 j (by decide), z100 113 j (by decide), zg 19 j (by omega)]; rfl
  exact law_loop l hl9 hLN hx hb hr hml hown hA hXs hbl hlocks hE hsz hbA X q1 q12 q25 ((3073 - x30.toInt) + 1).toNat x30 Γ26 g16 ((((((0 + 1) + 24) + 1) + 27) + 1)) ((((((0 + 13) + 6604) + 47) + 3734) + 1)) _ _ ls (by omega) (by omega) (by omega) (by omega) (by omega) (by omega) (by omega) (by omega) (by omega) (by omega) (by omega) (by omega) (by omega) (by omega) (by omega) (by omega) (by omega) (by omega) hj54 hj55 hU t_q1 t_q12 t_q25 (Nat.le_trans (Nat.le_of_ble_eq_true rfl : (((((0 + 1) + 24) + 1) + 27) + 1) ≤ 300) (Nat.le_add_right _ _)) (Nat.le_trans (Nat.le_of_ble_eq_true rfl : (((((0 + 13) + 6604) + 47) + 3734) + 1) ≤ 30000) (Nat.le_add_right _ _)) hG hS (lv_sub hl [0, 1, 2, 3, 4] rfl)
