section ROWS2
variable {p : Program} {l : Launch} {e : Env} {R : Room} {s : State} {m : MethodId} {args : Array Value} {below : List Frame} {meth : Method} {c : Code} {H : Heap} {locs : List Loc} {cells slots : Nat} {Q : State → Prop}
variable {cc : ByteArray} {pc : Nat} {ls : Array Slot} {rest : List Value} {dC : Nat → ClassId} {dI : Nat → Nat → Nat} {dA : Nat → ClassId} {a : Nat} {H0 : Heap} {sz : Nat} {X : va_W} {Γ : ty_G} {g : gh}
theorem ald_18 (hx : p.tables.exec = Jvm.exec) (hb : c.code = cc) (hE : en dC dI dA sz s) (hG : ty_ok (dC, dI) vwCl Γ (TP dA Γ g) sz X H) (ha : (Γ a).1 = 18) {i : Int32} (hin : 0 ≤ i.toInt ∧ i.toInt < 300) (hdg : decode cc pc = .ok (.iaload, 1)) (kk : ∀ (j : Nat) (x : Int32), (j : Int) = i.toInt → x.toInt = g 19 (j) → W p l e R s m args below meth c H locs cells slots Q (F0 m (pc + 1) ls (.int x :: rest))) : W p l e R s m args below meth c H locs cells slots Q (F0 m pc ls (.int i :: .ref a :: rest)) := by
  refine ty_iald (cA := dA 0) (n := 300) (P := aE 300 g 19 0) hx hb hE.1 hG (by rw [ha]; decide) (fun x h => by rw [TP_18 ha] at h; exact h) 0 rfl hin hdg (fun j f hj hjn hf => kk j (f j) hj (by have := hf j hjn; simpa using this))
theorem ast_18 (hx : p.tables.exec = Jvm.exec) (hb : c.code = cc) (hE : en dC dI dA sz s) (hG : ty_ok (dC, dI) vwCl Γ (TP dA Γ g) sz X H) (hS0 : va_S (ty_A sz) H0 H locs) (hU : Un Γ) (ha : (Γ a).1 = 18) {x : Int32} {i : Int32} (hin : 0 ≤ i.toInt ∧ i.toInt < 300) (hdg : decode cc pc = .ok (.iastore, 1)) (kk : ∀ (H1 : Heap) (locs1 : List Loc), ty_ok (dC, dI) vwCl Γ (TP dA Γ (gs g 19 (i.toInt.toNat) x.toInt)) sz X H1 → va_S (ty_A sz) H0 H1 locs1 → W p l e R s m args below meth c H1 locs1 cells slots Q (F0 m (pc + 1) ls rest)) : W p l e R s m args below meth c H locs cells slots Q (F0 m pc ls (.int x :: .int i :: .ref a :: rest)) := by
  refine ty_iast (T' := TP dA Γ (gs g 19 (i.toInt.toNat) x.toInt)) (cA := dA 0) (n := 300) (P := aE 300 g 19 0) (P' := aE 300 (gs g 19 (i.toInt.toNat) x.toInt) 19 0) hx hb hE.1 hG hS0 (by rw [ha]; decide) (fun x h => by rw [TP_18 ha] at h; exact h) (fun x h => by rw [TP_18 ha]; exact h) 0 rfl hin (fun j f hj hjn hf j' hj' => ?_) (fun b y hb h0 h => TP_gs (by show ((Γ b).1 == 18) = false; exact beq_eq_false_iff_ne.mpr (hU.one ha rfl hb)) h) hdg kk
  obtain rfl : j = i.toInt.toNat := by omega
  by_cases e : j' = i.toInt.toNat
  · subst e; simp [upd, gs]
  · have := hf j' hj'
    simp only [upd, e, if_false]
    rw [gs_j _ _ _ _ (by omega)]; exact this
theorem ald_16 (hx : p.tables.exec = Jvm.exec) (hb : c.code = cc) (hE : en dC dI dA sz s) (hG : ty_ok (dC, dI) vwCl Γ (TP dA Γ g) sz X H) {ii : Nat} (ha : Γ a = (16, ii)) {i : Int32} (hin : 0 ≤ i.toInt ∧ i.toInt < 53) (hdg : decode cc pc = .ok (.iaload, 1)) (kk : ∀ (j : Nat) (x : Int32), (j : Int) = i.toInt → x.toInt = g 80 (64 * ii + j) → W p l e R s m args below meth c H locs cells slots Q (F0 m (pc + 1) ls (.int x :: rest))) : W p l e R s m args below meth c H locs cells slots Q (F0 m pc ls (.int i :: .ref a :: rest)) := by
  refine ty_iald (cA := dA 0) (n := 53) (P := aE 53 g 80 (64 * ii)) hx hb hE.1 hG (by rw [(by rw [ha] : (Γ a).1 = 16)]; decide) (fun x h => by rw [TP_16 (by rw [ha] : (Γ a).1 = 16)] at h; rw [show (Γ a).2 = ii by rw [ha]] at h; exact h) 0 rfl hin hdg (fun j f hj hjn hf => kk j (f j) hj (by have := hf j hjn; simpa using this))
theorem ast_16 (hx : p.tables.exec = Jvm.exec) (hb : c.code = cc) (hE : en dC dI dA sz s) (hG : ty_ok (dC, dI) vwCl Γ (TP dA Γ g) sz X H) (hS0 : va_S (ty_A sz) H0 H locs) (hU : Un Γ) {ii : Nat} (ha : Γ a = (16, ii)) {x : Int32} {i : Int32} (hin : 0 ≤ i.toInt ∧ i.toInt < 53) (hdg : decode cc pc = .ok (.iastore, 1)) (kk : ∀ (H1 : Heap) (locs1 : List Loc), ty_ok (dC, dI) vwCl Γ (TP dA Γ (gs g 80 (64 * ii + i.toInt.toNat) x.toInt)) sz X H1 → va_S (ty_A sz) H0 H1 locs1 → W p l e R s m args below meth c H1 locs1 cells slots Q (F0 m (pc + 1) ls rest)) : W p l e R s m args below meth c H locs cells slots Q (F0 m pc ls (.int x :: .int i :: .ref a :: rest)) := by
  refine ty_iast (T' := TP dA Γ (gs g 80 (64 * ii + i.toInt.toNat) x.toInt)) (cA := dA 0) (n := 53) (P := aE 53 g 80 (64 * ii)) (P' := aE 53 (gs g 80 (64 * ii + i.toInt.toNat) x.toInt) 80 (64 * ii)) hx hb hE.1 hG hS0 (by rw [(by rw [ha] : (Γ a).1 = 16)]; decide) (fun x h => by rw [TP_16 (by rw [ha] : (Γ a).1 = 16)] at h; rw [show (Γ a).2 = ii by rw [ha]] at h; exact h) (fun x h => by rw [TP_16 (by rw [ha] : (Γ a).1 = 16)]; rw [show (Γ a).2 = ii by rw [ha]]; exact h) 0 rfl hin (fun j f hj hjn hf j' hj' => ?_) (fun b y hb h0 h => TP_gs (by show ((Γ b).1 == 16 && (Γ b).2 == (64 * ii + i.toInt.toNat) / 64) = false; have := hU.two ha rfl hb; rw [Bool.and_eq_false_iff]; by_cases e1 : (Γ b).1 = 16; exact Or.inr (beq_eq_false_iff_ne.mpr (fun e2 => this (Prod.ext e1 (by rw [e2]; omega)))); exact Or.inl (beq_eq_false_iff_ne.mpr e1)) h) hdg kk
  obtain rfl : j = i.toInt.toNat := by omega
  by_cases e : j' = i.toInt.toNat
  · subst e; simp [upd, gs]
  · have := hf j' hj'
    simp only [upd, e, if_false]
    rw [gs_j _ _ _ _ (by omega)]; exact this
theorem ald_17 (hx : p.tables.exec = Jvm.exec) (hb : c.code = cc) (hE : en dC dI dA sz s) (hG : ty_ok (dC, dI) vwCl Γ (TP dA Γ g) sz X H) {ii : Nat} (ha : Γ a = (17, ii)) {i : Int32} (hin : 0 ≤ i.toInt ∧ i.toInt < 5) (hdg : decode cc pc = .ok (.iaload, 1)) (kk : ∀ (j : Nat) (x : Int32), (j : Int) = i.toInt → x.toInt = g 81 (64 * ii + j) → W p l e R s m args below meth c H locs cells slots Q (F0 m (pc + 1) ls (.int x :: rest))) : W p l e R s m args below meth c H locs cells slots Q (F0 m pc ls (.int i :: .ref a :: rest)) := by
  refine ty_iald (cA := dA 0) (n := 5) (P := aE 5 g 81 (64 * ii)) hx hb hE.1 hG (by rw [(by rw [ha] : (Γ a).1 = 17)]; decide) (fun x h => by rw [TP_17 (by rw [ha] : (Γ a).1 = 17)] at h; rw [show (Γ a).2 = ii by rw [ha]] at h; exact h) 0 rfl hin hdg (fun j f hj hjn hf => kk j (f j) hj (by have := hf j hjn; simpa using this))
theorem ast_17 (hx : p.tables.exec = Jvm.exec) (hb : c.code = cc) (hE : en dC dI dA sz s) (hG : ty_ok (dC, dI) vwCl Γ (TP dA Γ g) sz X H) (hS0 : va_S (ty_A sz) H0 H locs) (hU : Un Γ) {ii : Nat} (ha : Γ a = (17, ii)) {x : Int32} {i : Int32} (hin : 0 ≤ i.toInt ∧ i.toInt < 5) (hdg : decode cc pc = .ok (.iastore, 1)) (kk : ∀ (H1 : Heap) (locs1 : List Loc), ty_ok (dC, dI) vwCl Γ (TP dA Γ (gs g 81 (64 * ii + i.toInt.toNat) x.toInt)) sz X H1 → va_S (ty_A sz) H0 H1 locs1 → W p l e R s m args below meth c H1 locs1 cells slots Q (F0 m (pc + 1) ls rest)) : W p l e R s m args below meth c H locs cells slots Q (F0 m pc ls (.int x :: .int i :: .ref a :: rest)) := by
  refine ty_iast (T' := TP dA Γ (gs g 81 (64 * ii + i.toInt.toNat) x.toInt)) (cA := dA 0) (n := 5) (P := aE 5 g 81 (64 * ii)) (P' := aE 5 (gs g 81 (64 * ii + i.toInt.toNat) x.toInt) 81 (64 * ii)) hx hb hE.1 hG hS0 (by rw [(by rw [ha] : (Γ a).1 = 17)]; decide) (fun x h => by rw [TP_17 (by rw [ha] : (Γ a).1 = 17)] at h; rw [show (Γ a).2 = ii by rw [ha]] at h; exact h) (fun x h => by rw [TP_17 (by rw [ha] : (Γ a).1 = 17)]; rw [show (Γ a).2 = ii by rw [ha]]; exact h) 0 rfl hin (fun j f hj hjn hf j' hj' => ?_) (fun b y hb h0 h => TP_gs (by show ((Γ b).1 == 17 && (Γ b).2 == (64 * ii + i.toInt.toNat) / 64) = false; have := hU.two ha rfl hb; rw [Bool.and_eq_false_iff]; by_cases e1 : (Γ b).1 = 17; exact Or.inr (beq_eq_false_iff_ne.mpr (fun e2 => this (Prod.ext e1 (by rw [e2]; omega)))); exact Or.inl (beq_eq_false_iff_ne.mpr e1)) h) hdg kk
  obtain rfl : j = i.toInt.toNat := by omega
  by_cases e : j' = i.toInt.toNat
  · subst e; simp [upd, gs]
  · have := hf j' hj'
    simp only [upd, e, if_false]
    rw [gs_j _ _ _ _ (by omega)]; exact this
theorem ald_26 (hx : p.tables.exec = Jvm.exec) (hb : c.code = cc) (hE : en dC dI dA sz s) (hG : ty_ok (dC, dI) vwCl Γ (TP dA Γ g) sz X H) {ii : Nat} (ha : Γ a = (26, ii)) {i : Int32} (hin : 0 ≤ i.toInt ∧ i.toInt < 53) (hdg : decode cc pc = .ok (.iaload, 1)) (kk : ∀ (j : Nat) (x : Int32), (j : Int) = i.toInt → x.toInt = g 82 (64 * ii + j) → W p l e R s m args below meth c H locs cells slots Q (F0 m (pc + 1) ls (.int x :: rest))) : W p l e R s m args below meth c H locs cells slots Q (F0 m pc ls (.int i :: .ref a :: rest)) := by
  refine ty_iald (cA := dA 0) (n := 53) (P := aE 53 g 82 (64 * ii)) hx hb hE.1 hG (by rw [(by rw [ha] : (Γ a).1 = 26)]; decide) (fun x h => by rw [TP_26 (by rw [ha] : (Γ a).1 = 26)] at h; rw [show (Γ a).2 = ii by rw [ha]] at h; exact h) 0 rfl hin hdg (fun j f hj hjn hf => kk j (f j) hj (by have := hf j hjn; simpa using this))
theorem ast_26 (hx : p.tables.exec = Jvm.exec) (hb : c.code = cc) (hE : en dC dI dA sz s) (hG : ty_ok (dC, dI) vwCl Γ (TP dA Γ g) sz X H) (hS0 : va_S (ty_A sz) H0 H locs) (hU : Un Γ) {ii : Nat} (ha : Γ a = (26, ii)) {x : Int32} {i : Int32} (hin : 0 ≤ i.toInt ∧ i.toInt < 53) (hdg : decode cc pc = .ok (.iastore, 1)) (kk : ∀ (H1 : Heap) (locs1 : List Loc), ty_ok (dC, dI) vwCl Γ (TP dA Γ (gs g 82 (64 * ii + i.toInt.toNat) x.toInt)) sz X H1 → va_S (ty_A sz) H0 H1 locs1 → W p l e R s m args below meth c H1 locs1 cells slots Q (F0 m (pc + 1) ls rest)) : W p l e R s m args below meth c H locs cells slots Q (F0 m pc ls (.int x :: .int i :: .ref a :: rest)) := by
  refine ty_iast (T' := TP dA Γ (gs g 82 (64 * ii + i.toInt.toNat) x.toInt)) (cA := dA 0) (n := 53) (P := aE 53 g 82 (64 * ii)) (P' := aE 53 (gs g 82 (64 * ii + i.toInt.toNat) x.toInt) 82 (64 * ii)) hx hb hE.1 hG hS0 (by rw [(by rw [ha] : (Γ a).1 = 26)]; decide) (fun x h => by rw [TP_26 (by rw [ha] : (Γ a).1 = 26)] at h; rw [show (Γ a).2 = ii by rw [ha]] at h; exact h) (fun x h => by rw [TP_26 (by rw [ha] : (Γ a).1 = 26)]; rw [show (Γ a).2 = ii by rw [ha]]; exact h) 0 rfl hin (fun j f hj hjn hf j' hj' => ?_) (fun b y hb h0 h => TP_gs (by show ((Γ b).1 == 26 && (Γ b).2 == (64 * ii + i.toInt.toNat) / 64) = false; have := hU.two ha rfl hb; rw [Bool.and_eq_false_iff]; by_cases e1 : (Γ b).1 = 26; exact Or.inr (beq_eq_false_iff_ne.mpr (fun e2 => this (Prod.ext e1 (by rw [e2]; omega)))); exact Or.inl (beq_eq_false_iff_ne.mpr e1)) h) hdg kk
  obtain rfl : j = i.toInt.toNat := by omega
  by_cases e : j' = i.toInt.toNat
  · subst e; simp [upd, gs]
  · have := hf j' hj'
    simp only [upd, e, if_false]
    rw [gs_j _ _ _ _ (by omega)]; exact this
theorem ald_20 (hx : p.tables.exec = Jvm.exec) (hb : c.code = cc) (hE : en dC dI dA sz s) (hG : ty_ok (dC, dI) vwCl Γ (TP dA Γ g) sz X H) (ha : (Γ a).1 = 20) {i : Int32} (hin : 0 ≤ i.toInt ∧ i.toInt < 9) (hdg : decode cc pc = .ok (.iaload, 1)) (kk : ∀ (j : Nat) (x : Int32), (j : Int) = i.toInt → x.toInt = g 83 (j) → W p l e R s m args below meth c H locs cells slots Q (F0 m (pc + 1) ls (.int x :: rest))) : W p l e R s m args below meth c H locs cells slots Q (F0 m pc ls (.int i :: .ref a :: rest)) := by
  refine ty_iald (cA := dA 0) (n := 9) (P := aE 9 g 83 0) hx hb hE.1 hG (by rw [ha]; decide) (fun x h => by rw [TP_20 ha] at h; exact h) 0 rfl hin hdg (fun j f hj hjn hf => kk j (f j) hj (by have := hf j hjn; simpa using this))
theorem ast_20 (hx : p.tables.exec = Jvm.exec) (hb : c.code = cc) (hE : en dC dI dA sz s) (hG : ty_ok (dC, dI) vwCl Γ (TP dA Γ g) sz X H) (hS0 : va_S (ty_A sz) H0 H locs) (hU : Un Γ) (ha : (Γ a).1 = 20) {x : Int32} {i : Int32} (hin : 0 ≤ i.toInt ∧ i.toInt < 9) (hdg : decode cc pc = .ok (.iastore, 1)) (kk : ∀ (H1 : Heap) (locs1 : List Loc), ty_ok (dC, dI) vwCl Γ (TP dA Γ (gs g 83 (i.toInt.toNat) x.toInt)) sz X H1 → va_S (ty_A sz) H0 H1 locs1 → W p l e R s m args below meth c H1 locs1 cells slots Q (F0 m (pc + 1) ls rest)) : W p l e R s m args below meth c H locs cells slots Q (F0 m pc ls (.int x :: .int i :: .ref a :: rest)) := by
  refine ty_iast (T' := TP dA Γ (gs g 83 (i.toInt.toNat) x.toInt)) (cA := dA 0) (n := 9) (P := aE 9 g 83 0) (P' := aE 9 (gs g 83 (i.toInt.toNat) x.toInt) 83 0) hx hb hE.1 hG hS0 (by rw [ha]; decide) (fun x h => by rw [TP_20 ha] at h; exact h) (fun x h => by rw [TP_20 ha]; exact h) 0 rfl hin (fun j f hj hjn hf j' hj' => ?_) (fun b y hb h0 h => TP_gs (by show ((Γ b).1 == 20) = false; exact beq_eq_false_iff_ne.mpr (hU.one ha rfl hb)) h) hdg kk
  obtain rfl : j = i.toInt.toNat := by omega
  by_cases e : j' = i.toInt.toNat
  · subst e; simp [upd, gs]
  · have := hf j' hj'
    simp only [upd, e, if_false]
    rw [gs_j _ _ _ _ (by omega)]; exact this
theorem ald_21 (hx : p.tables.exec = Jvm.exec) (hb : c.code = cc) (hE : en dC dI dA sz s) (hG : ty_ok (dC, dI) vwCl Γ (TP dA Γ g) sz X H) (ha : (Γ a).1 = 21) {i : Int32} (hin : 0 ≤ i.toInt ∧ i.toInt < 4608) (hdg : decode cc pc = .ok (.iaload, 1)) (kk : ∀ (j : Nat) (x : Int32), (j : Int) = i.toInt → x.toInt = g 84 (j) → W p l e R s m args below meth c H locs cells slots Q (F0 m (pc + 1) ls (.int x :: rest))) : W p l e R s m args below meth c H locs cells slots Q (F0 m pc ls (.int i :: .ref a :: rest)) := by
  refine ty_iald (cA := dA 0) (n := 4608) (P := aE 4608 g 84 0) hx hb hE.1 hG (by rw [ha]; decide) (fun x h => by rw [TP_21 ha] at h; exact h) 0 rfl hin hdg (fun j f hj hjn hf => kk j (f j) hj (by have := hf j hjn; simpa using this))
theorem ast_21 (hx : p.tables.exec = Jvm.exec) (hb : c.code = cc) (hE : en dC dI dA sz s) (hG : ty_ok (dC, dI) vwCl Γ (TP dA Γ g) sz X H) (hS0 : va_S (ty_A sz) H0 H locs) (hU : Un Γ) (ha : (Γ a).1 = 21) {x : Int32} {i : Int32} (hin : 0 ≤ i.toInt ∧ i.toInt < 4608) (hdg : decode cc pc = .ok (.iastore, 1)) (kk : ∀ (H1 : Heap) (locs1 : List Loc), ty_ok (dC, dI) vwCl Γ (TP dA Γ (gs g 84 (i.toInt.toNat) x.toInt)) sz X H1 → va_S (ty_A sz) H0 H1 locs1 → W p l e R s m args below meth c H1 locs1 cells slots Q (F0 m (pc + 1) ls rest)) : W p l e R s m args below meth c H locs cells slots Q (F0 m pc ls (.int x :: .int i :: .ref a :: rest)) := by
  refine ty_iast (T' := TP dA Γ (gs g 84 (i.toInt.toNat) x.toInt)) (cA := dA 0) (n := 4608) (P := aE 4608 g 84 0) (P' := aE 4608 (gs g 84 (i.toInt.toNat) x.toInt) 84 0) hx hb hE.1 hG hS0 (by rw [ha]; decide) (fun x h => by rw [TP_21 ha] at h; exact h) (fun x h => by rw [TP_21 ha]; exact h) 0 rfl hin (fun j f hj hjn hf j' hj' => ?_) (fun b y hb h0 h => TP_gs (by show ((Γ b).1 == 21) = false; exact beq_eq_false_iff_ne.mpr (hU.one ha rfl hb)) h) hdg kk
  obtain rfl : j = i.toInt.toNat := by omega
  by_cases e : j' = i.toInt.toNat
  · subst e; simp [upd, gs]
  · have := hf j' hj'
    simp only [upd, e, if_false]
    rw [gs_j _ _ _ _ (by omega)]; exact this
theorem ald_22 (hx : p.tables.exec = Jvm.exec) (hb : c.code = cc) (hE : en dC dI dA sz s) (hG : ty_ok (dC, dI) vwCl Γ (TP dA Γ g) sz X H) (ha : (Γ a).1 = 22) {i : Int32} (hin : 0 ≤ i.toInt ∧ i.toInt < 512) (hdg : decode cc pc = .ok (.iaload, 1)) (kk : ∀ (j : Nat) (x : Int32), (j : Int) = i.toInt → x.toInt = g 85 (j) → W p l e R s m args below meth c H locs cells slots Q (F0 m (pc + 1) ls (.int x :: rest))) : W p l e R s m args below meth c H locs cells slots Q (F0 m pc ls (.int i :: .ref a :: rest)) := by
  refine ty_iald (cA := dA 0) (n := 512) (P := aE 512 g 85 0) hx hb hE.1 hG (by rw [ha]; decide) (fun x h => by rw [TP_22 ha] at h; exact h) 0 rfl hin hdg (fun j f hj hjn hf => kk j (f j) hj (by have := hf j hjn; simpa using this))
theorem ast_22 (hx : p.tables.exec = Jvm.exec) (hb : c.code = cc) (hE : en dC dI dA sz s) (hG : ty_ok (dC, dI) vwCl Γ (TP dA Γ g) sz X H) (hS0 : va_S (ty_A sz) H0 H locs) (hU : Un Γ) (ha : (Γ a).1 = 22) {x : Int32} {i : Int32} (hin : 0 ≤ i.toInt ∧ i.toInt < 512) (hdg : decode cc pc = .ok (.iastore, 1)) (kk : ∀ (H1 : Heap) (locs1 : List Loc), ty_ok (dC, dI) vwCl Γ (TP dA Γ (gs g 85 (i.toInt.toNat) x.toInt)) sz X H1 → va_S (ty_A sz) H0 H1 locs1 → W p l e R s m args below meth c H1 locs1 cells slots Q (F0 m (pc + 1) ls rest)) : W p l e R s m args below meth c H locs cells slots Q (F0 m pc ls (.int x :: .int i :: .ref a :: rest)) := by
  refine ty_iast (T' := TP dA Γ (gs g 85 (i.toInt.toNat) x.toInt)) (cA := dA 0) (n := 512) (P := aE 512 g 85 0) (P' := aE 512 (gs g 85 (i.toInt.toNat) x.toInt) 85 0) hx hb hE.1 hG hS0 (by rw [ha]; decide) (fun x h => by rw [TP_22 ha] at h; exact h) (fun x h => by rw [TP_22 ha]; exact h) 0 rfl hin (fun j f hj hjn hf j' hj' => ?_) (fun b y hb h0 h => TP_gs (by show ((Γ b).1 == 22) = false; exact beq_eq_false_iff_ne.mpr (hU.one ha rfl hb)) h) hdg kk
  obtain rfl : j = i.toInt.toNat := by omega
  by_cases e : j' = i.toInt.toNat
  · subst e; simp [upd, gs]
  · have := hf j' hj'
    simp only [upd, e, if_false]
    rw [gs_j _ _ _ _ (by omega)]; exact this
theorem ald_27 (hx : p.tables.exec = Jvm.exec) (hb : c.code = cc) (hE : en dC dI dA sz s) (hG : ty_ok (dC, dI) vwCl Γ (TP dA Γ g) sz X H) (ha : (Γ a).1 = 27) {i : Int32} (hin : 0 ≤ i.toInt ∧ i.toInt < 512) (hdg : decode cc pc = .ok (.iaload, 1)) (kk : ∀ (j : Nat) (x : Int32), (j : Int) = i.toInt → x.toInt = g 86 (j) → W p l e R s m args below meth c H locs cells slots Q (F0 m (pc + 1) ls (.int x :: rest))) : W p l e R s m args below meth c H locs cells slots Q (F0 m pc ls (.int i :: .ref a :: rest)) := by
  refine ty_iald (cA := dA 0) (n := 512) (P := aE 512 g 86 0) hx hb hE.1 hG (by rw [ha]; decide) (fun x h => by rw [TP_27 ha] at h; exact h) 0 rfl hin hdg (fun j f hj hjn hf => kk j (f j) hj (by have := hf j hjn; simpa using this))
theorem ast_27 (hx : p.tables.exec = Jvm.exec) (hb : c.code = cc) (hE : en dC dI dA sz s) (hG : ty_ok (dC, dI) vwCl Γ (TP dA Γ g) sz X H) (hS0 : va_S (ty_A sz) H0 H locs) (hU : Un Γ) (ha : (Γ a).1 = 27) {x : Int32} {i : Int32} (hin : 0 ≤ i.toInt ∧ i.toInt < 512) (hdg : decode cc pc = .ok (.iastore, 1)) (kk : ∀ (H1 : Heap) (locs1 : List Loc), ty_ok (dC, dI) vwCl Γ (TP dA Γ (gs g 86 (i.toInt.toNat) x.toInt)) sz X H1 → va_S (ty_A sz) H0 H1 locs1 → W p l e R s m args below meth c H1 locs1 cells slots Q (F0 m (pc + 1) ls rest)) : W p l e R s m args below meth c H locs cells slots Q (F0 m pc ls (.int x :: .int i :: .ref a :: rest)) := by
  refine ty_iast (T' := TP dA Γ (gs g 86 (i.toInt.toNat) x.toInt)) (cA := dA 0) (n := 512) (P := aE 512 g 86 0) (P' := aE 512 (gs g 86 (i.toInt.toNat) x.toInt) 86 0) hx hb hE.1 hG hS0 (by rw [ha]; decide) (fun x h => by rw [TP_27 ha] at h; exact h) (fun x h => by rw [TP_27 ha]; exact h) 0 rfl hin (fun j f hj hjn hf j' hj' => ?_) (fun b y hb h0 h => TP_gs (by show ((Γ b).1 == 27) = false; exact beq_eq_false_iff_ne.mpr (hU.one ha rfl hb)) h) hdg kk
  obtain rfl : j = i.toInt.toNat := by omega
  by_cases e : j' = i.toInt.toNat
  · subst e; simp [upd, gs]
  · have := hf j' hj'
    simp only [upd, e, if_false]
    rw [gs_j _ _ _ _ (by omega)]; exact this
theorem alen_16 (hx : p.tables.exec = Jvm.exec) (hb : c.code = cc) (hE : en dC dI dA sz s) (hG : ty_ok (dC, dI) vwCl Γ (TP dA Γ g) sz X H) {ii : Nat} (ha : Γ a = (16, ii)) (hdg : decode cc pc = .ok (.arraylength, 1)) (kk : ∀ v : Int32, v.toInt = 53 → W p l e R s m args below meth c H locs cells slots Q (F0 m (pc + 1) ls (.int v :: rest))) : W p l e R s m args below meth c H locs cells slots Q (F0 m pc ls (.ref a :: rest)) :=
  ty_alen (cA := dA 0) (n := 53) (P := aE 53 g 80 (64 * ii)) hx hb hE.1 hG (by rw [(by rw [ha] : (Γ a).1 = 16)]; decide) (fun x h => by rw [TP_16 (by rw [ha] : (Γ a).1 = 16)] at h; rw [show (Γ a).2 = ii by rw [ha]] at h; exact h) 0 rfl (by decide) hdg kk
theorem alen_17 (hx : p.tables.exec = Jvm.exec) (hb : c.code = cc) (hE : en dC dI dA sz s) (hG : ty_ok (dC, dI) vwCl Γ (TP dA Γ g) sz X H) {ii : Nat} (ha : Γ a = (17, ii)) (hdg : decode cc pc = .ok (.arraylength, 1)) (kk : ∀ v : Int32, v.toInt = 5 → W p l e R s m args below meth c H locs cells slots Q (F0 m (pc + 1) ls (.int v :: rest))) : W p l e R s m args below meth c H locs cells slots Q (F0 m pc ls (.ref a :: rest)) :=
  ty_alen (cA := dA 0) (n := 5) (P := aE 5 g 81 (64 * ii)) hx hb hE.1 hG (by rw [(by rw [ha] : (Γ a).1 = 17)]; decide) (fun x h => by rw [TP_17 (by rw [ha] : (Γ a).1 = 17)] at h; rw [show (Γ a).2 = ii by rw [ha]] at h; exact h) 0 rfl (by decide) hdg kk
theorem alen_26 (hx : p.tables.exec = Jvm.exec) (hb : c.code = cc) (hE : en dC dI dA sz s) (hG : ty_ok (dC, dI) vwCl Γ (TP dA Γ g) sz X H) {ii : Nat} (ha : Γ a = (26, ii)) (hdg : decode cc pc = .ok (.arraylength, 1)) (kk : ∀ v : Int32, v.toInt = 53 → W p l e R s m args below meth c H locs cells slots Q (F0 m (pc + 1) ls (.int v :: rest))) : W p l e R s m args below meth c H locs cells slots Q (F0 m pc ls (.ref a :: rest)) :=
  ty_alen (cA := dA 0) (n := 53) (P := aE 53 g 82 (64 * ii)) hx hb hE.1 hG (by rw [(by rw [ha] : (Γ a).1 = 26)]; decide) (fun x h => by rw [TP_26 (by rw [ha] : (Γ a).1 = 26)] at h; rw [show (Γ a).2 = ii by rw [ha]] at h; exact h) 0 rfl (by decide) hdg kk
theorem ald_23 (hx : p.tables.exec = Jvm.exec) (hb : c.code = cc) (hE : en dC dI dA sz s) (hG : ty_ok (dC, dI) vwCl Γ (TP dA Γ g) sz X H) (ha : (Γ a).1 = 23) {i : Int32} (hin : 0 ≤ i.toInt ∧ i.toInt < 10) (hdg : decode cc pc = .ok (.iaload, 1)) (kk : ∀ (j : Nat) (x : Int32), (j : Int) = i.toInt → W p l e R s m args below meth c H locs cells slots Q (F0 m (pc + 1) ls (.int x :: rest))) : W p l e R s m args below meth c H locs cells slots Q (F0 m pc ls (.int i :: .ref a :: rest)) :=
  ty_iald (cA := dA 0) (n := 10) (P := fun _ => True) hx hb hE.1 hG (by rw [ha]; decide) (fun x h => by rw [TP_23 ha] at h; exact h) 0 rfl hin hdg (fun j f hj hjn hf => kk j (f j) hj)
theorem ast_23 (hx : p.tables.exec = Jvm.exec) (hb : c.code = cc) (hE : en dC dI dA sz s) (hG : ty_ok (dC, dI) vwCl Γ (TP dA Γ g) sz X H) (hS0 : va_S (ty_A sz) H0 H locs) (ha : (Γ a).1 = 23) {x : Int32} {i : Int32} (hin : 0 ≤ i.toInt ∧ i.toInt < 10) (hdg : decode cc pc = .ok (.iastore, 1)) (kk : ∀ (H1 : Heap) (locs1 : List Loc), ty_ok (dC, dI) vwCl Γ (TP dA Γ g) sz X H1 → va_S (ty_A sz) H0 H1 locs1 → W p l e R s m args below meth c H1 locs1 cells slots Q (F0 m (pc + 1) ls rest)) : W p l e R s m args below meth c H locs cells slots Q (F0 m pc ls (.int x :: .int i :: .ref a :: rest)) :=
  ty_iast (T' := TP dA Γ g) (cA := dA 0) (n := 10) (P := fun _ => True) (P' := fun _ => True) hx hb hE.1 hG hS0 (by rw [ha]; decide) (fun x h => by rw [TP_23 ha] at h; exact h) (fun x h => by rw [TP_23 ha]; exact h) 0 rfl hin (fun _ _ _ _ _ => trivial) (fun _ _ _ _ h => h) hdg kk
theorem ald_24 (hx : p.tables.exec = Jvm.exec) (hb : c.code = cc) (hE : en dC dI dA sz s) (hG : ty_ok (dC, dI) vwCl Γ (TP dA Γ g) sz X H) (ha : (Γ a).1 = 24) {i : Int32} (hin : 0 ≤ i.toInt ∧ i.toInt < 10) (hdg : decode cc pc = .ok (.baload, 1)) (kk : ∀ (j : Nat) (x : Int32), (j : Int) = i.toInt → (x.toInt = 0 ∨ x.toInt = 1) → W p l e R s m args below meth c H locs cells slots Q (F0 m (pc + 1) ls (.int x :: rest))) : W p l e R s m args below meth c H locs cells slots Q (F0 m pc ls (.int i :: .ref a :: rest)) :=
  ty_zald (cA := dA 1) (n := 10) (P := aB 10) hx hb hE.1 hG (by rw [ha]; decide) (fun x h => by rw [TP_24 ha] at h; exact h) 1 rfl hin hdg (fun j f hj hjn hf => kk j (f j) hj (hf j hjn))
theorem ast_24 (hx : p.tables.exec = Jvm.exec) (hb : c.code = cc) (hE : en dC dI dA sz s) (hG : ty_ok (dC, dI) vwCl Γ (TP dA Γ g) sz X H) (hS0 : va_S (ty_A sz) H0 H locs) (ha : (Γ a).1 = 24) {x : Int32} (h01 : x.toInt = 0 ∨ x.toInt = 1) {i : Int32} (hin : 0 ≤ i.toInt ∧ i.toInt < 10) (hdg : decode cc pc = .ok (.bastore, 1)) (kk : ∀ (H1 : Heap) (locs1 : List Loc), ty_ok (dC, dI) vwCl Γ (TP dA Γ g) sz X H1 → va_S (ty_A sz) H0 H1 locs1 → W p l e R s m args below meth c H1 locs1 cells slots Q (F0 m (pc + 1) ls rest)) : W p l e R s m args below meth c H locs cells slots Q (F0 m pc ls (.int x :: .int i :: .ref a :: rest)) := by
  refine ty_zast (T' := TP dA Γ g) (cA := dA 1) (n := 10) (P := aB 10) (P' := aB 10) hx hb hE.1 hG hS0 (by rw [ha]; decide) (fun x h => by rw [TP_24 ha] at h; exact h) (fun x h => by rw [TP_24 ha]; exact h) 1 rfl hin (fun j f hj hjn hf j' hj' => ?_) (fun _ _ _ _ h => h) hdg kk
  rw [(ty_nb h01).2.2]
  by_cases e : j' = j
  · subst e; simpa [upd] using h01
  · simpa [upd, e] using hf j' hj'
theorem ald_14 (hx : p.tables.exec = Jvm.exec) (hb : c.code = cc) (hE : en dC dI dA sz s) (hG : ty_ok (dC, dI) vwCl Γ (TP dA Γ g) sz X H) {ii : Nat} (ha : Γ a = (14, ii)) {i : Int32} (hin : 0 ≤ i.toInt ∧ i.toInt < 53) (hdg : decode cc pc = .ok (.baload, 1)) (kk : ∀ (j : Nat) (x : Int32), (j : Int) = i.toInt → x.toInt = g 44 (53 * ii + j) → (x.toInt = 0 ∨ x.toInt = 1) → W p l e R s m args below meth c H locs cells slots Q (F0 m (pc + 1) ls (.int x :: rest))) : W p l e R s m args below meth c H locs cells slots Q (F0 m pc ls (.int i :: .ref a :: rest)) :=
  ty_zald (cA := dA 1) (n := 53) (P := (fun f => aE 53 g 44 (53 * ii) f ∧ aB 53 f)) hx hb hE.1 hG (by rw [(by rw [ha] : (Γ a).1 = 14)]; decide) (fun x h => by rw [TP_14 (by rw [ha] : (Γ a).1 = 14)] at h; rw [show (Γ a).2 = ii by rw [ha]] at h; exact h) 1 rfl hin hdg (fun j f hj hjn hf => kk j (f j) hj (hf.1 j hjn) (hf.2 j hjn))
theorem ast_14 (hx : p.tables.exec = Jvm.exec) (hb : c.code = cc) (hE : en dC dI dA sz s) (hG : ty_ok (dC, dI) vwCl Γ (TP dA Γ g) sz X H) (hS0 : va_S (ty_A sz) H0 H locs) (hU : Un Γ) {ii : Nat} (ha : Γ a = (14, ii)) {x : Int32} (h01 : x.toInt = 0 ∨ x.toInt = 1) {i : Int32} (hin : 0 ≤ i.toInt ∧ i.toInt < 53) (hdg : decode cc pc = .ok (.bastore, 1)) (kk : ∀ (H1 : Heap) (locs1 : List Loc), ty_ok (dC, dI) vwCl Γ (TP dA Γ (gs g 44 (53 * ii + i.toInt.toNat) x.toInt)) sz X H1 → va_S (ty_A sz) H0 H1 locs1 → W p l e R s m args below meth c H1 locs1 cells slots Q (F0 m (pc + 1) ls rest)) : W p l e R s m args below meth c H locs cells slots Q (F0 m pc ls (.int x :: .int i :: .ref a :: rest)) := by
  refine ty_zast (T' := TP dA Γ (gs g 44 (53 * ii + i.toInt.toNat) x.toInt)) (cA := dA 1) (n := 53) (P := (fun f => aE 53 g 44 (53 * ii) f ∧ aB 53 f)) (P' := fun f => aE 53 (gs g 44 (53 * ii + i.toInt.toNat) x.toInt) 44 (53 * ii) f ∧ aB 53 f) hx hb hE.1 hG hS0 (by rw [(by rw [ha] : (Γ a).1 = 14)]; decide) (fun x h => by rw [TP_14 (by rw [ha] : (Γ a).1 = 14)] at h; rw [show (Γ a).2 = ii by rw [ha]] at h; exact h) (fun x h => by rw [TP_14 (by rw [ha] : (Γ a).1 = 14)]; rw [show (Γ a).2 = ii by rw [ha]]; exact h) 1 rfl hin (fun j f hj hjn hf => ⟨fun j' hj' => ?_, fun j' hj' => ?_⟩) (fun b y hb h0 h => TP_gs (by show ((Γ b).1 == 14 && (Γ b).2 == (53 * ii + i.toInt.toNat) / 53) = false; have := hU.two ha rfl hb; rw [Bool.and_eq_false_iff]; by_cases e1 : (Γ b).1 = 14; exact Or.inr (beq_eq_false_iff_ne.mpr (fun e2 => this (Prod.ext e1 (by rw [e2]; omega)))); exact Or.inl (beq_eq_false_iff_ne.mpr e1)) h) hdg kk
  · obtain rfl : j = i.toInt.toNat := by omega
    rw [(ty_nb h01).2.2]
    by_cases e : j' = i.toInt.toNat
    · subst e; simp [upd, gs]
    · have := hf.1 j' hj'
      simp only [upd, e, if_false]
      rw [gs_j _ _ _ _ (by omega)]; exact this
  · rw [(ty_nb h01).2.2]
    by_cases e : j' = j
    · subst e; simpa [upd] using h01
    · simpa [upd, e] using hf.2 j' hj'
theorem ald_mI (hx : p.tables.exec = Jvm.exec) (hb : c.code = cc) (hE : en dC dI dA sz s) (hG : ty_ok (dC, dI) vwCl Γ (TP dA Γ g) sz X H) (k : Nat) (hc : mC k = 0) {n : Nat} (hn : mN k = n) {lo hi : Int} (hlo : mLo k = lo) (hhi : mHi k = hi) (ha : (Γ a).1 = 100 + k) {i : Int32} (hin : 0 ≤ i.toInt ∧ i.toInt < n) (hdg : decode cc pc = .ok (.iaload, 1)) (kk : ∀ (j : Nat) (x : Int32), (j : Int) = i.toInt → x.toInt = g (100 + k) j → lo ≤ x.toInt ∧ x.toInt ≤ hi → W p l e R s m args below meth c H locs cells slots Q (F0 m (pc + 1) ls (.int x :: rest))) : W p l e R s m args below meth c H locs cells slots Q (F0 m pc ls (.int i :: .ref a :: rest)) := by
  subst hn hlo hhi
  exact ty_iald (cA := dA 0) (n := mN k) (P := aM k g) hx hb hE.1 hG (by rw [ha]; omega) (fun x h => by rw [TP_m ha, hc] at h; exact h) 0 rfl hin hdg (fun j f hj hjn hf => kk j (f j) hj (by have := hf.1 j hjn; simpa using this) (hf.2 j hjn))
theorem ast_mI (hx : p.tables.exec = Jvm.exec) (hb : c.code = cc) (hE : en dC dI dA sz s) (hG : ty_ok (dC, dI) vwCl Γ (TP dA Γ g) sz X H) (hS0 : va_S (ty_A sz) H0 H locs) (hU : Un Γ) (k : Nat) (hc : mC k = 0) {n : Nat} (hn : mN k = n) {lo hi : Int} (hlo : mLo k = lo) (hhi : mHi k = hi) (hm : mA k = true) (ha : (Γ a).1 = 100 + k) {x : Int32} (hv : lo ≤ x.toInt ∧ x.toInt ≤ hi) {i : Int32} (hin : 0 ≤ i.toInt ∧ i.toInt < n) (hdg : decode cc pc = .ok (.iastore, 1)) (kk : ∀ (H1 : Heap) (locs1 : List Loc), ty_ok (dC, dI) vwCl Γ (TP dA Γ (gs g (100 + k) i.toInt.toNat x.toInt)) sz X H1 → va_S (ty_A sz) H0 H1 locs1 → W p l e R s m args below meth c H1 locs1 cells slots Q (F0 m (pc + 1) ls rest)) : W p l e R s m args below meth c H locs cells slots Q (F0 m pc ls (.int x :: .int i :: .ref a :: rest)) := by
  subst hn hlo hhi
  refine ty_iast (T' := TP dA Γ (gs g (100 + k) i.toInt.toNat x.toInt)) (cA := dA 0) (n := mN k) (P := aM k g) (P' := aM k (gs g (100 + k) i.toInt.toNat x.toInt)) hx hb hE.1 hG hS0 (by rw [ha]; omega) (fun x h => by rw [TP_m ha, hc] at h; exact h) (fun x h => by rw [TP_m ha, hc]; exact h) 0 rfl hin (fun j f hj hjn hf => ⟨fun j' hj' => ?_, fun j' hj' => ?_⟩) (fun b y hb h0 h => ?_) hdg kk
  · obtain rfl : j = i.toInt.toNat := by omega
    by_cases e : j' = i.toInt.toNat
    · subst e; simp [upd, gs]
    · have := hf.1 j' hj'
      simp only [upd, e, if_false]
      rw [gs_j _ _ _ _ (by omega)]; exact this
  · by_cases e : j' = j
    · subst e; simpa [upd] using hv
    · simpa [upd, e] using hf.2 j' hj'
  · by_cases e30 : (Γ b).1 = 30
    · rw [TP_30 e30] at h ⊢
      refine h.mono (fun q v hv => ?_)
      unfold F9 at hv ⊢
      by_cases e : mA q = true
      · rw [if_pos e] at hv ⊢; exact hv
      · rw [if_neg e] at hv ⊢
        rw [gs_c _ _ _ _ (fun e2 => e (by rw [show q = k by omega]; exact hm))]
        exact hv
    · exact TP_gs (by rw [dpt_m]; simp [e30, hU.one ha (by simp [sg]) hb]) h
theorem ald_mZ (hx : p.tables.exec = Jvm.exec) (hb : c.code = cc) (hE : en dC dI dA sz s) (hG : ty_ok (dC, dI) vwCl Γ (TP dA Γ g) sz X H) (k : Nat) (hc : mC k = 1) {n : Nat} (hn : mN k = n) {lo hi : Int} (hlo : mLo k = lo) (hhi : mHi k = hi) (ha : (Γ a).1 = 100 + k) {i : Int32} (hin : 0 ≤ i.toInt ∧ i.toInt < n) (hdg : decode cc pc = .ok (.baload, 1)) (kk : ∀ (j : Nat) (x : Int32), (j : Int) = i.toInt → x.toInt = g (100 + k) j → lo ≤ x.toInt ∧ x.toInt ≤ hi → W p l e R s m args below meth c H locs cells slots Q (F0 m (pc + 1) ls (.int x :: rest))) : W p l e R s m args below meth c H locs cells slots Q (F0 m pc ls (.int i :: .ref a :: rest)) := by
  subst hn hlo hhi
  exact ty_zald (cA := dA 1) (n := mN k) (P := aM k g) hx hb hE.1 hG (by rw [ha]; omega) (fun x h => by rw [TP_m ha, hc] at h; exact h) 1 rfl hin hdg (fun j f hj hjn hf => kk j (f j) hj (by have := hf.1 j hjn; simpa using this) (hf.2 j hjn))
theorem ast_mZ (hx : p.tables.exec = Jvm.exec) (hb : c.code = cc) (hE : en dC dI dA sz s) (hG : ty_ok (dC, dI) vwCl Γ (TP dA Γ g) sz X H) (hS0 : va_S (ty_A sz) H0 H locs) (hU : Un Γ) (k : Nat) (hc : mC k = 1) {n : Nat} (hn : mN k = n) {lo hi : Int} (hlo : mLo k = lo) (hhi : mHi k = hi) (hm : mA k = true) (ha : (Γ a).1 = 100 + k) {x : Int32} (h01 : x.toInt = 0 ∨ x.toInt = 1) (hv : lo ≤ x.toInt ∧ x.toInt ≤ hi) {i : Int32} (hin : 0 ≤ i.toInt ∧ i.toInt < n) (hdg : decode cc pc = .ok (.bastore, 1)) (kk : ∀ (H1 : Heap) (locs1 : List Loc), ty_ok (dC, dI) vwCl Γ (TP dA Γ (gs g (100 + k) i.toInt.toNat x.toInt)) sz X H1 → va_S (ty_A sz) H0 H1 locs1 → W p l e R s m args below meth c H1 locs1 cells slots Q (F0 m (pc + 1) ls rest)) : W p l e R s m args below meth c H locs cells slots Q (F0 m pc ls (.int x :: .int i :: .ref a :: rest)) := by
  subst hn hlo hhi
  have e9 := (ty_nb h01).2.2
  refine ty_zast (T' := TP dA Γ (gs g (100 + k) i.toInt.toNat x.toInt)) (cA := dA 1) (n := mN k) (P := aM k g) (P' := aM k (gs g (100 + k) i.toInt.toNat x.toInt)) hx hb hE.1 hG hS0 (by rw [ha]; omega) (fun x h => by rw [TP_m ha, hc] at h; exact h) (fun x h => by rw [TP_m ha, hc]; exact h) 1 rfl hin (fun j f hj hjn hf => ⟨fun j' hj' => ?_, fun j' hj' => ?_⟩) (fun b y hb h0 h => ?_) hdg kk
  · obtain rfl : j = i.toInt.toNat := by omega
    rw [e9]; by_cases e : j' = i.toInt.toNat
    · subst e; simp [upd, gs]
    · have := hf.1 j' hj'
      simp only [upd, e, if_false]
      rw [gs_j _ _ _ _ (by omega)]; exact this
  · rw [e9]; by_cases e : j' = j
    · subst e; simpa [upd] using hv
    · simpa [upd, e] using hf.2 j' hj'
  · by_cases e30 : (Γ b).1 = 30
    · rw [TP_30 e30] at h ⊢
      refine h.mono (fun q v hv => ?_)
      unfold F9 at hv ⊢
      by_cases e : mA q = true
      · rw [if_pos e] at hv ⊢; exact hv
      · rw [if_neg e] at hv ⊢
        rw [gs_c _ _ _ _ (fun e2 => e (by rw [show q = k by omega]; exact hm))]
        exact hv
    · exact TP_gs (by rw [dpt_m]; simp [e30, hU.one ha (by simp [sg]) hb]) h
theorem ald_mB (hx : p.tables.exec = Jvm.exec) (hb : c.code = cc) (hE : en dC dI dA sz s) (hG : ty_ok (dC, dI) vwCl Γ (TP dA Γ g) sz X H) (k : Nat) (hc : mC k = 2) {n : Nat} (hn : mN k = n) {lo hi : Int} (hlo : mLo k = lo) (hhi : mHi k = hi) (ha : (Γ a).1 = 100 + k) {i : Int32} (hin : 0 ≤ i.toInt ∧ i.toInt < n) (hdg : decode cc pc = .ok (.baload, 1)) (kk : ∀ (j : Nat) (x : Int32), (j : Int) = i.toInt → x.toInt = g (100 + k) j → lo ≤ x.toInt ∧ x.toInt ≤ hi → W p l e R s m args below meth c H locs cells slots Q (F0 m (pc + 1) ls (.int x :: rest))) : W p l e R s m args below meth c H locs cells slots Q (F0 m pc ls (.int i :: .ref a :: rest)) := by
  subst hn hlo hhi
  exact ty_bald (cA := dA 2) (n := mN k) (P := aM k g) hx hb hE.1 hG (by rw [ha]; omega) (fun x h => by rw [TP_m ha, hc] at h; exact h) 2 rfl hin hdg (fun j f hj hjn hf => kk j (f j) hj (by have := hf.1 j hjn; simpa using this) (hf.2 j hjn))
theorem ast_mB (hx : p.tables.exec = Jvm.exec) (hb : c.code = cc) (hE : en dC dI dA sz s) (hG : ty_ok (dC, dI) vwCl Γ (TP dA Γ g) sz X H) (hS0 : va_S (ty_A sz) H0 H locs) (hU : Un Γ) (k : Nat) (hc : mC k = 2) {n : Nat} (hn : mN k = n) {lo hi : Int} (hlo : mLo k = lo) (hhi : mHi k = hi) (hm : mA k = true) (ha : (Γ a).1 = 100 + k) {x : Int32} (hv : lo ≤ (vp_nar .byte x).toInt ∧ (vp_nar .byte x).toInt ≤ hi) {i : Int32} (hin : 0 ≤ i.toInt ∧ i.toInt < n) (hdg : decode cc pc = .ok (.bastore, 1)) (kk : ∀ (H1 : Heap) (locs1 : List Loc), ty_ok (dC, dI) vwCl Γ (TP dA Γ (gs g (100 + k) i.toInt.toNat (vp_nar .byte x).toInt)) sz X H1 → va_S (ty_A sz) H0 H1 locs1 → W p l e R s m args below meth c H1 locs1 cells slots Q (F0 m (pc + 1) ls rest)) : W p l e R s m args below meth c H locs cells slots Q (F0 m pc ls (.int x :: .int i :: .ref a :: rest)) := by
  subst hn hlo hhi
  refine ty_bast (T' := TP dA Γ (gs g (100 + k) i.toInt.toNat (vp_nar .byte x).toInt)) (cA := dA 2) (n := mN k) (P := aM k g) (P' := aM k (gs g (100 + k) i.toInt.toNat (vp_nar .byte x).toInt)) hx hb hE.1 hG hS0 (by rw [ha]; omega) (fun x h => by rw [TP_m ha, hc] at h; exact h) (fun x h => by rw [TP_m ha, hc]; exact h) 2 rfl hin (fun j f hj hjn hf => ⟨fun j' hj' => ?_, fun j' hj' => ?_⟩) (fun b y hb h0 h => ?_) hdg kk
  · obtain rfl : j = i.toInt.toNat := by omega
    by_cases e : j' = i.toInt.toNat
    · subst e; simp [upd, gs]
    · have := hf.1 j' hj'
      simp only [upd, e, if_false]
      rw [gs_j _ _ _ _ (by omega)]; exact this
  · by_cases e : j' = j
    · subst e; simpa [upd] using hv
    · simpa [upd, e] using hf.2 j' hj'
  · by_cases e30 : (Γ b).1 = 30
    · rw [TP_30 e30] at h ⊢
      refine h.mono (fun q v hv => ?_)
      unfold F9 at hv ⊢
      by_cases e : mA q = true
      · rw [if_pos e] at hv ⊢; exact hv
      · rw [if_neg e] at hv ⊢
        rw [gs_c _ _ _ _ (fun e2 => e (by rw [show q = k by omega]; exact hm))]
        exact hv
    · exact TP_gs (by rw [dpt_m]; simp [e30, hU.one ha (by simp [sg]) hb]) h
theorem ald_10 (hx : p.tables.exec = Jvm.exec) (hb : c.code = cc) (hE : en dC dI dA sz s) (hG : ty_ok (dC, dI) vwCl Γ (TP dA Γ g) sz X H) (ha : (Γ a).1 = 10) {i : Int32} (hin : 0 ≤ i.toInt ∧ i.toInt < 6) (hdg : decode cc pc = .ok (.aaload, 1)) (kk : ∀ (j : Nat) (r : Option Nat), (j : Int) = i.toInt → (∀ b, r = some b → Γ b = (2, j)) → ((j : Int) < g 33 0 → r ≠ none) → W p l e R s m args below meth c H locs cells slots Q (F0 m (pc + 1) ls (va_rf r :: rest))) : W p l e R s m args below meth c H locs cells slots Q (F0 m pc ls (.int i :: .ref a :: rest)) :=
  ty_aald (cA := dA 4) (C := RX1) (n := 6) (P := aRi Γ 2 6 (g 33 0)) hx hb hE.1 hG (by rw [ha]; decide) (fun x h => by rw [TP_10 ha] at h; exact h) 4 rfl hin hdg (fun j f hj hjn hf => kk j (f j) hj (hf j hjn).1 (hf j hjn).2)
/-- the next place of a row that is filled from below -/
theorem ast_10 (hx : p.tables.exec = Jvm.exec) (hb : c.code = cc) (hE : en dC dI dA sz s) (hG : ty_ok (dC, dI) vwCl Γ (TP dA Γ g) sz X H) (hS0 : va_S (ty_A sz) H0 H locs) (hU : Un Γ) (ha : (Γ a).1 = 10) {v : Nat} {i : Int32} (hv : Γ v = (2, i.toInt.toNat)) (hin : 0 ≤ i.toInt ∧ i.toInt < 6) (hi : i.toInt = g 33 0) (hdg : decode cc pc = .ok (.aastore, 1)) (kk : ∀ (H1 : Heap) (locs1 : List Loc), ty_ok (dC, dI) vwCl Γ (TP dA Γ (gs g 33 0 (i.toInt + 1))) sz X H1 → va_S (ty_A sz) H0 H1 locs1 → W p l e R s m args below meth c H1 locs1 cells slots Q (F0 m (pc + 1) ls rest)) : W p l e R s m args below meth c H locs cells slots Q (F0 m pc ls (.ref v :: .int i :: .ref a :: rest)) := by
  have hv1 : (Γ v).1 = 2 := by rw [hv]
  obtain ⟨-, y, h2, h3⟩ := hG.2.1 v (by rw [hv1]; decide)
  rw [TP_2 hv1] at h3
  obtain ⟨vs, rfl, -⟩ := h3
  refine ty_aastS (T' := TP dA Γ (gs g 33 0 (i.toInt + 1))) (cA := dA 4) (r := vwCl[1]) (n := 6) (P := aRi Γ 2 6 (g 33 0)) (P' := aRi Γ 2 6 (i.toInt + 1)) hx hb hE.1 hG hS0 (by rw [ha]; decide) (fun x h => by rw [TP_10 ha] at h; exact h) (fun x h => by rw [TP_10 ha, gs_self]; exact h) 4 rfl h2 rfl hin (fun j f hj hjn hf j' hj' => ?_) (fun b y hb h0 h => TP_gs (by show ((Γ b).1 == 10) = false; exact beq_eq_false_iff_ne.mpr (hU.one ha rfl hb)) h) hdg (fun H1 locs1 q1 q2 _ => kk H1 locs1 q1 q2)
  by_cases e : j' = j
  · subst e; rw [va_up_self]; exact ⟨fun b hb => by cases hb; rw [hv]; congr 1; omega, fun _ h => by cases h⟩
  · rw [va_up_ne _ _ e]; exact ⟨(hf j' hj').1, fun h => (hf j' hj').2 (by omega)⟩
theorem ald_11 (hx : p.tables.exec = Jvm.exec) (hb : c.code = cc) (hE : en dC dI dA sz s) (hG : ty_ok (dC, dI) vwCl Γ (TP dA Γ g) sz X H) (ha : (Γ a).1 = 11) {i : Int32} (hin : 0 ≤ i.toInt ∧ i.toInt < 10) (hdg : decode cc pc = .ok (.aaload, 1)) (kk : ∀ (j : Nat) (r : Option Nat), (j : Int) = i.toInt → (∀ b, r = some b → Γ b = (3, j)) → ((j : Int) < g 34 0 → r ≠ none) → W p l e R s m args below meth c H locs cells slots Q (F0 m (pc + 1) ls (va_rf r :: rest))) : W p l e R s m args below meth c H locs cells slots Q (F0 m pc ls (.int i :: .ref a :: rest)) :=
  ty_aald (cA := dA 5) (C := RX3) (n := 10) (P := aRi Γ 3 10 (g 34 0)) hx hb hE.1 hG (by rw [ha]; decide) (fun x h => by rw [TP_11 ha] at h; exact h) 5 rfl hin hdg (fun j f hj hjn hf => kk j (f j) hj (hf j hjn).1 (hf j hjn).2)
/-- the next place of a row that is filled from below -/
theorem ast_11 (hx : p.tables.exec = Jvm.exec) (hb : c.code = cc) (hE : en dC dI dA sz s) (hG : ty_ok (dC, dI) vwCl Γ (TP dA Γ g) sz X H) (hS0 : va_S (ty_A sz) H0 H locs) (hU : Un Γ) (ha : (Γ a).1 = 11) {v : Nat} {i : Int32} (hv : Γ v = (3, i.toInt.toNat)) (hin : 0 ≤ i.toInt ∧ i.toInt < 10) (hi : i.toInt = g 34 0) (hdg : decode cc pc = .ok (.aastore, 1)) (kk : ∀ (H1 : Heap) (locs1 : List Loc), ty_ok (dC, dI) vwCl Γ (TP dA Γ (gs g 34 0 (i.toInt + 1))) sz X H1 → va_S (ty_A sz) H0 H1 locs1 → W p l e R s m args below meth c H1 locs1 cells slots Q (F0 m (pc + 1) ls rest)) : W p l e R s m args below meth c H locs cells slots Q (F0 m pc ls (.ref v :: .int i :: .ref a :: rest)) := by
  have hv1 : (Γ v).1 = 3 := by rw [hv]
  obtain ⟨-, y, h2, h3⟩ := hG.2.1 v (by rw [hv1]; decide)
  rw [TP_3 hv1] at h3
  obtain ⟨vs, rfl, -⟩ := h3
  refine ty_aastS (T' := TP dA Γ (gs g 34 0 (i.toInt + 1))) (cA := dA 5) (r := vwCl[3]) (n := 10) (P := aRi Γ 3 10 (g 34 0)) (P' := aRi Γ 3 10 (i.toInt + 1)) hx hb hE.1 hG hS0 (by rw [ha]; decide) (fun x h => by rw [TP_11 ha] at h; exact h) (fun x h => by rw [TP_11 ha, gs_self]; exact h) 5 rfl h2 rfl hin (fun j f hj hjn hf j' hj' => ?_) (fun b y hb h0 h => TP_gs (by show ((Γ b).1 == 11) = false; exact beq_eq_false_iff_ne.mpr (hU.one ha rfl hb)) h) hdg (fun H1 locs1 q1 q2 _ => kk H1 locs1 q1 q2)
  by_cases e : j' = j
  · subst e; rw [va_up_self]; exact ⟨fun b hb => by cases hb; rw [hv]; congr 1; omega, fun _ h => by cases h⟩
  · rw [va_up_ne _ _ e]; exact ⟨(hf j' hj').1, fun h => (hf j' hj').2 (by omega)⟩
theorem ald_12 (hx : p.tables.exec = Jvm.exec) (hb : c.code = cc) (hE : en dC dI dA sz s) (hG : ty_ok (dC, dI) vwCl Γ (TP dA Γ g) sz X H) (ha : (Γ a).1 = 12) {i : Int32} (hin : 0 ≤ i.toInt ∧ i.toInt < 200) (hdg : decode cc pc = .ok (.aaload, 1)) (kk : ∀ (j : Nat) (r : Option Nat), (j : Int) = i.toInt → (∀ b, r = some b → Γ b = (4, j)) → ((j : Int) < g 35 0 → r ≠ none) → W p l e R s m args below meth c H locs cells slots Q (F0 m (pc + 1) ls (va_rf r :: rest))) : W p l e R s m args below meth c H locs cells slots Q (F0 m pc ls (.int i :: .ref a :: rest)) :=
  ty_aald (cA := dA 6) (C := RX2) (n := 200) (P := aRi Γ 4 200 (g 35 0)) hx hb hE.1 hG (by rw [ha]; decide) (fun x h => by rw [TP_12 ha] at h; exact h) 6 rfl hin hdg (fun j f hj hjn hf => kk j (f j) hj (hf j hjn).1 (hf j hjn).2)
/-- the next place of a row that is filled from below -/
theorem ast_12 (hx : p.tables.exec = Jvm.exec) (hb : c.code = cc) (hE : en dC dI dA sz s) (hG : ty_ok (dC, dI) vwCl Γ (TP dA Γ g) sz X H) (hS0 : va_S (ty_A sz) H0 H locs) (hU : Un Γ) (ha : (Γ a).1 = 12) {v : Nat} {i : Int32} (hv : Γ v = (4, i.toInt.toNat)) (hin : 0 ≤ i.toInt ∧ i.toInt < 200) (hi : i.toInt = g 35 0) (hdg : decode cc pc = .ok (.aastore, 1)) (kk : ∀ (H1 : Heap) (locs1 : List Loc), ty_ok (dC, dI) vwCl Γ (TP dA Γ (gs g 35 0 (i.toInt + 1))) sz X H1 → va_S (ty_A sz) H0 H1 locs1 → W p l e R s m args below meth c H1 locs1 cells slots Q (F0 m (pc + 1) ls rest)) : W p l e R s m args below meth c H locs cells slots Q (F0 m pc ls (.ref v :: .int i :: .ref a :: rest)) := by
  have hv1 : (Γ v).1 = 4 := by rw [hv]
  obtain ⟨-, y, h2, h3⟩ := hG.2.1 v (by rw [hv1]; decide)
  rw [TP_4 hv1] at h3
  obtain ⟨vs, rfl, -⟩ := h3
  refine ty_aastS (T' := TP dA Γ (gs g 35 0 (i.toInt + 1))) (cA := dA 6) (r := vwCl[2]) (n := 200) (P := aRi Γ 4 200 (g 35 0)) (P' := aRi Γ 4 200 (i.toInt + 1)) hx hb hE.1 hG hS0 (by rw [ha]; decide) (fun x h => by rw [TP_12 ha] at h; exact h) (fun x h => by rw [TP_12 ha, gs_self]; exact h) 6 rfl h2 rfl hin (fun j f hj hjn hf j' hj' => ?_) (fun b y hb h0 h => TP_gs (by show ((Γ b).1 == 12) = false; exact beq_eq_false_iff_ne.mpr (hU.one ha rfl hb)) h) hdg (fun H1 locs1 q1 q2 _ => kk H1 locs1 q1 q2)
  by_cases e : j' = j
  · subst e; rw [va_up_self]; exact ⟨fun b hb => by cases hb; rw [hv]; congr 1; omega, fun _ h => by cases h⟩
  · rw [va_up_ne _ _ e]; exact ⟨(hf j' hj').1, fun h => (hf j' hj').2 (by omega)⟩
theorem ald_13 (hx : p.tables.exec = Jvm.exec) (hb : c.code = cc) (hE : en dC dI dA sz s) (hG : ty_ok (dC, dI) vwCl Γ (TP dA Γ g) sz X H) {ii : Nat} (ha : Γ a = (13, ii)) {i : Int32} (hin : 0 ≤ i.toInt ∧ i.toInt < 53) (hdg : decode cc pc = .ok (.aaload, 1)) (kk : ∀ (j : Nat) (r : Option Nat), (j : Int) = i.toInt → (r = none → g 43 (53 * ii + j) = -1) → (∀ b, r = some b → Γ b = (3, (g 43 (53 * ii + j)).toNat) ∧ 0 ≤ g 43 (53 * ii + j)) → W p l e R s m args below meth c H locs cells slots Q (F0 m (pc + 1) ls (va_rf r :: rest))) : W p l e R s m args below meth c H locs cells slots Q (F0 m pc ls (.int i :: .ref a :: rest)) :=
  ty_aald (cA := dA 5) (C := RX3) (n := 53) (P := aRm Γ 3 53 g 43 (53 * ii)) hx hb hE.1 hG (by rw [(by rw [ha] : (Γ a).1 = 13)]; decide) (fun x h => by rw [TP_13 (by rw [ha] : (Γ a).1 = 13)] at h; rw [show (Γ a).2 = ii by rw [ha]] at h; exact h) 5 rfl hin hdg (fun j f hj hjn hf => kk j (f j) hj (hf j hjn).1 (hf j hjn).2)
theorem ast_13 (hx : p.tables.exec = Jvm.exec) (hb : c.code = cc) (hE : en dC dI dA sz s) (hG : ty_ok (dC, dI) vwCl Γ (TP dA Γ g) sz X H) (hS0 : va_S (ty_A sz) H0 H locs) (hU : Un Γ) {ii : Nat} (ha : Γ a = (13, ii)) {r : Option Nat} {z : Int} (hr0 : r = none → z = -1) (hr : ∀ b, r = some b → Γ b = (3, z.toNat) ∧ 0 ≤ z) {i : Int32} (hin : 0 ≤ i.toInt ∧ i.toInt < 53) (hdg : decode cc pc = .ok (.aastore, 1)) (kk : ∀ (H1 : Heap) (locs1 : List Loc), ty_ok (dC, dI) vwCl Γ (TP dA Γ (gs g 43 (53 * ii + i.toInt.toNat) z)) sz X H1 → va_S (ty_A sz) H0 H1 locs1 → W p l e R s m args below meth c H1 locs1 cells slots Q (F0 m (pc + 1) ls rest)) : W p l e R s m args below meth c H locs cells slots Q (F0 m pc ls (va_rf r :: .int i :: .ref a :: rest)) := by
  have key : ∀ (j : Nat) (f : Nat → Option Nat), (j : Int) = i.toInt → aRm Γ 3 53 g 43 (53 * ii) f → aRm Γ 3 53 (gs g 43 (53 * ii + i.toInt.toNat) z) 43 (53 * ii) (va_up f j r) := fun j f hj hf j' hj' => by
    obtain rfl : j = i.toInt.toNat := by omega
    by_cases e : j' = i.toInt.toNat
    · subst e; rw [va_up_self, gs_self]; exact ⟨hr0, hr⟩
    · rw [va_up_ne _ _ e, gs_j _ _ _ _ (by omega)]; exact hf j' hj'
  cases r with
  | none => exact ty_aastN (T' := TP dA Γ (gs g 43 (53 * ii + i.toInt.toNat) z)) (cA := dA 5) (C := RX3) (n := 53) (P := aRm Γ 3 53 g 43 (53 * ii)) (P' := aRm Γ 3 53 (gs g 43 (53 * ii + i.toInt.toNat) z) 43 (53 * ii)) hx hb hE.1 hG hS0 (by rw [(by rw [ha] : (Γ a).1 = 13)]; decide) (fun x h => by rw [TP_13 (by rw [ha] : (Γ a).1 = 13)] at h; rw [show (Γ a).2 = ii by rw [ha]] at h; exact h) (fun x h => by rw [TP_13 (by rw [ha] : (Γ a).1 = 13)]; rw [show (Γ a).2 = ii by rw [ha]]; exact h) 5 rfl hin (fun j f hj _ hf => key j f hj hf) (fun b y hb h0 h => TP_gs (by show ((Γ b).1 == 13 && (Γ b).2 == (53 * ii + i.toInt.toNat) / 53) = false; have := hU.two ha rfl hb; rw [Bool.and_eq_false_iff]; by_cases e1 : (Γ b).1 = 13; exact Or.inr (beq_eq_false_iff_ne.mpr (fun e2 => this (Prod.ext e1 (by rw [e2]; omega)))); exact Or.inl (beq_eq_false_iff_ne.mpr e1)) h) hdg kk
  | some v =>
    have hv1 : (Γ v).1 = 3 := by rw [(hr v rfl).1]
    obtain ⟨-, y, h2, h3⟩ := hG.2.1 v (by rw [hv1]; decide)
    rw [TP_3 hv1] at h3
    obtain ⟨vs, rfl, -⟩ := h3
    exact ty_aastS (T' := TP dA Γ (gs g 43 (53 * ii + i.toInt.toNat) z)) (cA := dA 5) (r := vwCl[3]) (n := 53) (P := aRm Γ 3 53 g 43 (53 * ii)) (P' := aRm Γ 3 53 (gs g 43 (53 * ii + i.toInt.toNat) z) 43 (53 * ii)) hx hb hE.1 hG hS0 (by rw [(by rw [ha] : (Γ a).1 = 13)]; decide) (fun x h => by rw [TP_13 (by rw [ha] : (Γ a).1 = 13)] at h; rw [show (Γ a).2 = ii by rw [ha]] at h; exact h) (fun x h => by rw [TP_13 (by rw [ha] : (Γ a).1 = 13)]; rw [show (Γ a).2 = ii by rw [ha]]; exact h) 5 rfl h2 rfl hin (fun j f hj _ hf => key j f hj hf) (fun b y hb h0 h => TP_gs (by show ((Γ b).1 == 13 && (Γ b).2 == (53 * ii + i.toInt.toNat) / 53) = false; have := hU.two ha rfl hb; rw [Bool.and_eq_false_iff]; by_cases e1 : (Γ b).1 = 13; exact Or.inr (beq_eq_false_iff_ne.mpr (fun e2 => this (Prod.ext e1 (by rw [e2]; omega)))); exact Or.inl (beq_eq_false_iff_ne.mpr e1)) h) hdg (fun H1 locs1 q1 q2 _ => kk H1 locs1 q1 q2)
theorem ald_15 (hx : p.tables.exec = Jvm.exec) (hb : c.code = cc) (hE : en dC dI dA sz s) (hG : ty_ok (dC, dI) vwCl Γ (TP dA Γ g) sz X H) {ii : Nat} (ha : Γ a = (15, ii)) {i : Int32} (hin : 0 ≤ i.toInt ∧ i.toInt < 53) (hdg : decode cc pc = .ok (.aaload, 1)) (kk : ∀ (j : Nat) (r : Option Nat), (j : Int) = i.toInt → (r = none → g 45 (53 * ii + j) = -1) → (∀ b, r = some b → Γ b = (4, (g 45 (53 * ii + j)).toNat) ∧ 0 ≤ g 45 (53 * ii + j)) → W p l e R s m args below meth c H locs cells slots Q (F0 m (pc + 1) ls (va_rf r :: rest))) : W p l e R s m args below meth c H locs cells slots Q (F0 m pc ls (.int i :: .ref a :: rest)) :=
  ty_aald (cA := dA 6) (C := RX2) (n := 53) (P := aRm Γ 4 53 g 45 (53 * ii)) hx hb hE.1 hG (by rw [(by rw [ha] : (Γ a).1 = 15)]; decide) (fun x h => by rw [TP_15 (by rw [ha] : (Γ a).1 = 15)] at h; rw [show (Γ a).2 = ii by rw [ha]] at h; exact h) 6 rfl hin hdg (fun j f hj hjn hf => kk j (f j) hj (hf j hjn).1 (hf j hjn).2)
theorem ast_15 (hx : p.tables.exec = Jvm.exec) (hb : c.code = cc) (hE : en dC dI dA sz s) (hG : ty_ok (dC, dI) vwCl Γ (TP dA Γ g) sz X H) (hS0 : va_S (ty_A sz) H0 H locs) (hU : Un Γ) {ii : Nat} (ha : Γ a = (15, ii)) {r : Option Nat} {z : Int} (hr0 : r = none → z = -1) (hr : ∀ b, r = some b → Γ b = (4, z.toNat) ∧ 0 ≤ z) {i : Int32} (hin : 0 ≤ i.toInt ∧ i.toInt < 53) (hdg : decode cc pc = .ok (.aastore, 1)) (kk : ∀ (H1 : Heap) (locs1 : List Loc), ty_ok (dC, dI) vwCl Γ (TP dA Γ (gs g 45 (53 * ii + i.toInt.toNat) z)) sz X H1 → va_S (ty_A sz) H0 H1 locs1 → W p l e R s m args below meth c H1 locs1 cells slots Q (F0 m (pc + 1) ls rest)) : W p l e R s m args below meth c H locs cells slots Q (F0 m pc ls (va_rf r :: .int i :: .ref a :: rest)) := by
  have key : ∀ (j : Nat) (f : Nat → Option Nat), (j : Int) = i.toInt → aRm Γ 4 53 g 45 (53 * ii) f → aRm Γ 4 53 (gs g 45 (53 * ii + i.toInt.toNat) z) 45 (53 * ii) (va_up f j r) := fun j f hj hf j' hj' => by
    obtain rfl : j = i.toInt.toNat := by omega
    by_cases e : j' = i.toInt.toNat
    · subst e; rw [va_up_self, gs_self]; exact ⟨hr0, hr⟩
    · rw [va_up_ne _ _ e, gs_j _ _ _ _ (by omega)]; exact hf j' hj'
  cases r with
  | none => exact ty_aastN (T' := TP dA Γ (gs g 45 (53 * ii + i.toInt.toNat) z)) (cA := dA 6) (C := RX2) (n := 53) (P := aRm Γ 4 53 g 45 (53 * ii)) (P' := aRm Γ 4 53 (gs g 45 (53 * ii + i.toInt.toNat) z) 45 (53 * ii)) hx hb hE.1 hG hS0 (by rw [(by rw [ha] : (Γ a).1 = 15)]; decide) (fun x h => by rw [TP_15 (by rw [ha] : (Γ a).1 = 15)] at h; rw [show (Γ a).2 = ii by rw [ha]] at h; exact h) (fun x h => by rw [TP_15 (by rw [ha] : (Γ a).1 = 15)]; rw [show (Γ a).2 = ii by rw [ha]]; exact h) 6 rfl hin (fun j f hj _ hf => key j f hj hf) (fun b y hb h0 h => TP_gs (by show ((Γ b).1 == 15 && (Γ b).2 == (53 * ii + i.toInt.toNat) / 53) = false; have := hU.two ha rfl hb; rw [Bool.and_eq_false_iff]; by_cases e1 : (Γ b).1 = 15; exact Or.inr (beq_eq_false_iff_ne.mpr (fun e2 => this (Prod.ext e1 (by rw [e2]; omega)))); exact Or.inl (beq_eq_false_iff_ne.mpr e1)) h) hdg kk
  | some v =>
    have hv1 : (Γ v).1 = 4 := by rw [(hr v rfl).1]
    obtain ⟨-, y, h2, h3⟩ := hG.2.1 v (by rw [hv1]; decide)
    rw [TP_4 hv1] at h3
    obtain ⟨vs, rfl, -⟩ := h3
    exact ty_aastS (T' := TP dA Γ (gs g 45 (53 * ii + i.toInt.toNat) z)) (cA := dA 6) (r := vwCl[2]) (n := 53) (P := aRm Γ 4 53 g 45 (53 * ii)) (P' := aRm Γ 4 53 (gs g 45 (53 * ii + i.toInt.toNat) z) 45 (53 * ii)) hx hb hE.1 hG hS0 (by rw [(by rw [ha] : (Γ a).1 = 15)]; decide) (fun x h => by rw [TP_15 (by rw [ha] : (Γ a).1 = 15)] at h; rw [show (Γ a).2 = ii by rw [ha]] at h; exact h) (fun x h => by rw [TP_15 (by rw [ha] : (Γ a).1 = 15)]; rw [show (Γ a).2 = ii by rw [ha]]; exact h) 6 rfl h2 rfl hin (fun j f hj _ hf => key j f hj hf) (fun b y hb h0 h => TP_gs (by show ((Γ b).1 == 15 && (Γ b).2 == (53 * ii + i.toInt.toNat) / 53) = false; have := hU.two ha rfl hb; rw [Bool.and_eq_false_iff]; by_cases e1 : (Γ b).1 = 15; exact Or.inr (beq_eq_false_iff_ne.mpr (fun e2 => this (Prod.ext e1 (by rw [e2]; omega)))); exact Or.inl (beq_eq_false_iff_ne.mpr e1)) h) hdg (fun H1 locs1 q1 q2 _ => kk H1 locs1 q1 q2)
theorem ald_19 (hx : p.tables.exec = Jvm.exec) (hb : c.code = cc) (hE : en dC dI dA sz s) (hG : ty_ok (dC, dI) vwCl Γ (TP dA Γ g) sz X H) (ha : (Γ a).1 = 19) {i : Int32} (hin : 0 ≤ i.toInt ∧ i.toInt < 9) (hdg : decode cc pc = .ok (.aaload, 1)) (kk : ∀ (j : Nat) (r : Option Nat), (j : Int) = i.toInt → (r = none → g 46 (0 + j) = -1) → (∀ b, r = some b → Γ b = (4, (g 46 (0 + j)).toNat) ∧ 0 ≤ g 46 (0 + j)) → W p l e R s m args below meth c H locs cells slots Q (F0 m (pc + 1) ls (va_rf r :: rest))) : W p l e R s m args below meth c H locs cells slots Q (F0 m pc ls (.int i :: .ref a :: rest)) :=
  ty_aald (cA := dA 6) (C := RX2) (n := 9) (P := aRm Γ 4 9 g 46 0) hx hb hE.1 hG (by rw [ha]; decide) (fun x h => by rw [TP_19 ha] at h; exact h) 6 rfl hin hdg (fun j f hj hjn hf => kk j (f j) hj (hf j hjn).1 (hf j hjn).2)
theorem ast_19 (hx : p.tables.exec = Jvm.exec) (hb : c.code = cc) (hE : en dC dI dA sz s) (hG : ty_ok (dC, dI) vwCl Γ (TP dA Γ g) sz X H) (hS0 : va_S (ty_A sz) H0 H locs) (hU : Un Γ) (ha : (Γ a).1 = 19) {r : Option Nat} {z : Int} (hr0 : r = none → z = -1) (hr : ∀ b, r = some b → Γ b = (4, z.toNat) ∧ 0 ≤ z) {i : Int32} (hin : 0 ≤ i.toInt ∧ i.toInt < 9) (hdg : decode cc pc = .ok (.aastore, 1)) (kk : ∀ (H1 : Heap) (locs1 : List Loc), ty_ok (dC, dI) vwCl Γ (TP dA Γ (gs g 46 (0 + i.toInt.toNat) z)) sz X H1 → va_S (ty_A sz) H0 H1 locs1 → W p l e R s m args below meth c H1 locs1 cells slots Q (F0 m (pc + 1) ls rest)) : W p l e R s m args below meth c H locs cells slots Q (F0 m pc ls (va_rf r :: .int i :: .ref a :: rest)) := by
  have key : ∀ (j : Nat) (f : Nat → Option Nat), (j : Int) = i.toInt → aRm Γ 4 9 g 46 0 f → aRm Γ 4 9 (gs g 46 (0 + i.toInt.toNat) z) 46 0 (va_up f j r) := fun j f hj hf j' hj' => by
    obtain rfl : j = i.toInt.toNat := by omega
    by_cases e : j' = i.toInt.toNat
    · subst e; rw [va_up_self, gs_self]; exact ⟨hr0, hr⟩
    · rw [va_up_ne _ _ e, gs_j _ _ _ _ (by omega)]; exact hf j' hj'
  cases r with
  | none => exact ty_aastN (T' := TP dA Γ (gs g 46 (0 + i.toInt.toNat) z)) (cA := dA 6) (C := RX2) (n := 9) (P := aRm Γ 4 9 g 46 0) (P' := aRm Γ 4 9 (gs g 46 (0 + i.toInt.toNat) z) 46 0) hx hb hE.1 hG hS0 (by rw [ha]; decide) (fun x h => by rw [TP_19 ha] at h; exact h) (fun x h => by rw [TP_19 ha]; exact h) 6 rfl hin (fun j f hj _ hf => key j f hj hf) (fun b y hb h0 h => TP_gs (by show ((Γ b).1 == 19) = false; exact beq_eq_false_iff_ne.mpr (hU.one ha rfl hb)) h) hdg kk
  | some v =>
    have hv1 : (Γ v).1 = 4 := by rw [(hr v rfl).1]
    obtain ⟨-, y, h2, h3⟩ := hG.2.1 v (by rw [hv1]; decide)
    rw [TP_4 hv1] at h3
    obtain ⟨vs, rfl, -⟩ := h3
    exact ty_aastS (T' := TP dA Γ (gs g 46 (0 + i.toInt.toNat) z)) (cA := dA 6) (r := vwCl[2]) (n := 9) (P := aRm Γ 4 9 g 46 0) (P' := aRm Γ 4 9 (gs g 46 (0 + i.toInt.toNat) z) 46 0) hx hb hE.1 hG hS0 (by rw [ha]; decide) (fun x h => by rw [TP_19 ha] at h; exact h) (fun x h => by rw [TP_19 ha]; exact h) 6 rfl h2 rfl hin (fun j f hj _ hf => key j f hj hf) (fun b y hb h0 h => TP_gs (by show ((Γ b).1 == 19) = false; exact beq_eq_false_iff_ne.mpr (hU.one ha rfl hb)) h) hdg (fun H1 locs1 q1 q2 _ => kk H1 locs1 q1 q2)
end ROWS2
