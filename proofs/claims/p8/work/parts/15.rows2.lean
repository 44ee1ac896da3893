section ROWS2
variable {p : Program} {l : Launch} {e : Env} {R : Room} {s : State} {m : MethodId} {args : Array Value} {below : List Frame} {meth : Method} {c : Code} {H : Heap} {locs : List Loc} {cells slots : Nat} {Q : State → Prop}
variable {cc : ByteArray} {pc : Nat} {ls : Array Slot} {rest : List Value} {dC : Nat → ClassId} {dI : Nat → Nat → Nat} {dA : Nat → ClassId} {a : Nat} {H0 : Heap} {sz : Nat} {X : va_W} {Γ : ty_G} {g : gh}
theorem ald_18 (hx : p.tables.exec = Jvm.exec) (hb : c.code = cc) (hE : en dC dI dA sz s) (hG : ty_ok (dC, dI) vwCl Γ (TP dA Γ g) sz X H) (ha : (Γ a).1 = 18) {i : Int32} (hin : 0 ≤ i.toInt ∧ i.toInt < 300) (hdg : decode cc pc = .ok (.iaload, 1)) (kk : ∀ (j : Nat) (x : Int32), (j : Int) = i.toInt → x.toInt = g 19 (j) → W p l e R s m args below meth c H locs cells slots Q (F0 m (pc + 1) ls (.int x :: rest))) : W p l e R s m args below meth c H locs cells slots Q (F0 m pc ls (.int i :: .ref a :: rest)) := by
  refine ty_iald (cA := dA 0) (n := 300) (P := aE 300 g 19 0) hx hb hE.1 hG (by rw [ha]; decide) (fun x h => by rw [TP_18 ha] at h; exact h) 0 rfl hin hdg (fun j f hj hjn hf => kk j (f j) hj (by have := hf j hjn; simpa using this))
theorem ast_18 (hx : p.tables.exec = Jvm.exec) (hb : c.code = cc) (hE : en dC dI dA sz s) (hG : ty_ok (dC, dI) vwCl Γ (TP dA Γ g) sz X H) (hS0 : va_S (ty_A sz) H0 H locs) (hU : Un Γ) (ha : (Γ a).1 = 18) {x : Int32} {i : Int32} (hin : 0 ≤ i.toInt ∧ i.toInt < 300) (hdg : decode cc pc = .ok (.iastore, 1)) (kk : ∀ (H1 : Heap) (locs1 : List Loc), ty_ok (dC, dI) vwCl Γ (TP dA Γ (gs g 19 (i.toInt.toNat) x.toInt)) sz X H1 → va_S (ty_A sz) H0 H1 locs1 → W p l e R s m args below meth c H1 locs1 cells slots Q (F0 m (pc + 1) ls rest)) : W p l e R s m args below meth c H locs cells slots Q (F0 m pc ls (.int x :: .int i :: .ref a :: rest)) := by
  refine ty_iast (T' := TP dA Γ (gs g 19 (i.toInt.toNat) x.toInt)) (cA := dA 0) (n := 300) (P := aE 300 g 19 0) (P' := aE 300 (gs g 19 (i.toInt.toNat) x.toInt) 19 0) hx hb hE.1 hG hS0 (by rw [ha]; decide) (fun x h => by rw [TP_18 ha] at h; exact h) (fun x h => by rw [TP_18 ha]; exact h) 0 rfl hin (fun j f hj hjn hf j' hj' => ?_) (fun b y hb h0 h => TP_gs (by show ((Γ b).1 == 18) = false; exact beq_eq_false_iff_ne.mpr (hU.one ha rfl hb)) h) hdg kk
  obtain rfl : j = i.toInt.toNat := by omega
  by_cases e : j' = i.toInt.toNat
  · subst e; simp [upd, gs]
  · have := hf j' hj'
    simp only [upd, e, if_false]
    rw [gs_j _ _ _ _ (by omega)]; exact this
theorem ald_16 (hx : p.tables.exec = Jvm.exec) (hb : c.code = cc) (hE : en dC dI dA sz s) (hG : ty_ok (dC, dI) vwCl Γ (TP dA Γ g) sz X H) {ii : Nat} (ha : Γ a = (16, ii)) {i : Int32} (hin : 0 ≤ i.toInt ∧ i.toInt < 53) (hdg : decode cc pc = .ok (.iaload, 1)) (kk : ∀ (j : Nat) (x : Int32), (j : Int) = i.toInt → W p l e R s m args below meth c H locs cells slots Q (F0 m (pc + 1) ls (.int x :: rest))) : W p l e R s m args below meth c H locs cells slots Q (F0 m pc ls (.int i :: .ref a :: rest)) :=
  ty_iald (cA := dA 0) (n := 53) (P := fun _ => True) hx hb hE.1 hG (by rw [(by rw [ha] : (Γ a).1 = 16)]; decide) (fun x h => by rw [TP_16 (by rw [ha] : (Γ a).1 = 16)] at h; exact h) 0 rfl hin hdg (fun j f hj hjn hf => kk j (f j) hj)
theorem ast_16 (hx : p.tables.exec = Jvm.exec) (hb : c.code = cc) (hE : en dC dI dA sz s) (hG : ty_ok (dC, dI) vwCl Γ (TP dA Γ g) sz X H) (hS0 : va_S (ty_A sz) H0 H locs) {ii : Nat} (ha : Γ a = (16, ii)) {x : Int32} {i : Int32} (hin : 0 ≤ i.toInt ∧ i.toInt < 53) (hdg : decode cc pc = .ok (.iastore, 1)) (kk : ∀ (H1 : Heap) (locs1 : List Loc), ty_ok (dC, dI) vwCl Γ (TP dA Γ g) sz X H1 → va_S (ty_A sz) H0 H1 locs1 → W p l e R s m args below meth c H1 locs1 cells slots Q (F0 m (pc + 1) ls rest)) : W p l e R s m args below meth c H locs cells slots Q (F0 m pc ls (.int x :: .int i :: .ref a :: rest)) :=
  ty_iast (T' := TP dA Γ g) (cA := dA 0) (n := 53) (P := fun _ => True) (P' := fun _ => True) hx hb hE.1 hG hS0 (by rw [(by rw [ha] : (Γ a).1 = 16)]; decide) (fun x h => by rw [TP_16 (by rw [ha] : (Γ a).1 = 16)] at h; exact h) (fun x h => by rw [TP_16 (by rw [ha] : (Γ a).1 = 16)]; exact h) 0 rfl hin (fun _ _ _ _ _ => trivial) (fun _ _ _ _ h => h) hdg kk
theorem alen_16 (hx : p.tables.exec = Jvm.exec) (hb : c.code = cc) (hE : en dC dI dA sz s) (hG : ty_ok (dC, dI) vwCl Γ (TP dA Γ g) sz X H) {ii : Nat} (ha : Γ a = (16, ii)) (hdg : decode cc pc = .ok (.arraylength, 1)) (kk : ∀ v : Int32, v.toInt = 53 → W p l e R s m args below meth c H locs cells slots Q (F0 m (pc + 1) ls (.int v :: rest))) : W p l e R s m args below meth c H locs cells slots Q (F0 m pc ls (.ref a :: rest)) :=
  ty_alen (cA := dA 0) (n := 53) (P := fun _ => True) hx hb hE.1 hG (by rw [(by rw [ha] : (Γ a).1 = 16)]; decide) (fun x h => by rw [TP_16 (by rw [ha] : (Γ a).1 = 16)] at h; exact h) 0 rfl (by decide) hdg kk
theorem ald_17 (hx : p.tables.exec = Jvm.exec) (hb : c.code = cc) (hE : en dC dI dA sz s) (hG : ty_ok (dC, dI) vwCl Γ (TP dA Γ g) sz X H) {ii : Nat} (ha : Γ a = (17, ii)) {i : Int32} (hin : 0 ≤ i.toInt ∧ i.toInt < 5) (hdg : decode cc pc = .ok (.iaload, 1)) (kk : ∀ (j : Nat) (x : Int32), (j : Int) = i.toInt → W p l e R s m args below meth c H locs cells slots Q (F0 m (pc + 1) ls (.int x :: rest))) : W p l e R s m args below meth c H locs cells slots Q (F0 m pc ls (.int i :: .ref a :: rest)) :=
  ty_iald (cA := dA 0) (n := 5) (P := fun _ => True) hx hb hE.1 hG (by rw [(by rw [ha] : (Γ a).1 = 17)]; decide) (fun x h => by rw [TP_17 (by rw [ha] : (Γ a).1 = 17)] at h; exact h) 0 rfl hin hdg (fun j f hj hjn hf => kk j (f j) hj)
theorem ast_17 (hx : p.tables.exec = Jvm.exec) (hb : c.code = cc) (hE : en dC dI dA sz s) (hG : ty_ok (dC, dI) vwCl Γ (TP dA Γ g) sz X H) (hS0 : va_S (ty_A sz) H0 H locs) {ii : Nat} (ha : Γ a = (17, ii)) {x : Int32} {i : Int32} (hin : 0 ≤ i.toInt ∧ i.toInt < 5) (hdg : decode cc pc = .ok (.iastore, 1)) (kk : ∀ (H1 : Heap) (locs1 : List Loc), ty_ok (dC, dI) vwCl Γ (TP dA Γ g) sz X H1 → va_S (ty_A sz) H0 H1 locs1 → W p l e R s m args below meth c H1 locs1 cells slots Q (F0 m (pc + 1) ls rest)) : W p l e R s m args below meth c H locs cells slots Q (F0 m pc ls (.int x :: .int i :: .ref a :: rest)) :=
  ty_iast (T' := TP dA Γ g) (cA := dA 0) (n := 5) (P := fun _ => True) (P' := fun _ => True) hx hb hE.1 hG hS0 (by rw [(by rw [ha] : (Γ a).1 = 17)]; decide) (fun x h => by rw [TP_17 (by rw [ha] : (Γ a).1 = 17)] at h; exact h) (fun x h => by rw [TP_17 (by rw [ha] : (Γ a).1 = 17)]; exact h) 0 rfl hin (fun _ _ _ _ _ => trivial) (fun _ _ _ _ h => h) hdg kk
theorem alen_17 (hx : p.tables.exec = Jvm.exec) (hb : c.code = cc) (hE : en dC dI dA sz s) (hG : ty_ok (dC, dI) vwCl Γ (TP dA Γ g) sz X H) {ii : Nat} (ha : Γ a = (17, ii)) (hdg : decode cc pc = .ok (.arraylength, 1)) (kk : ∀ v : Int32, v.toInt = 5 → W p l e R s m args below meth c H locs cells slots Q (F0 m (pc + 1) ls (.int v :: rest))) : W p l e R s m args below meth c H locs cells slots Q (F0 m pc ls (.ref a :: rest)) :=
  ty_alen (cA := dA 0) (n := 5) (P := fun _ => True) hx hb hE.1 hG (by rw [(by rw [ha] : (Γ a).1 = 17)]; decide) (fun x h => by rw [TP_17 (by rw [ha] : (Γ a).1 = 17)] at h; exact h) 0 rfl (by decide) hdg kk
theorem ald_26 (hx : p.tables.exec = Jvm.exec) (hb : c.code = cc) (hE : en dC dI dA sz s) (hG : ty_ok (dC, dI) vwCl Γ (TP dA Γ g) sz X H) {ii : Nat} (ha : Γ a = (26, ii)) {i : Int32} (hin : 0 ≤ i.toInt ∧ i.toInt < 53) (hdg : decode cc pc = .ok (.iaload, 1)) (kk : ∀ (j : Nat) (x : Int32), (j : Int) = i.toInt → W p l e R s m args below meth c H locs cells slots Q (F0 m (pc + 1) ls (.int x :: rest))) : W p l e R s m args below meth c H locs cells slots Q (F0 m pc ls (.int i :: .ref a :: rest)) :=
  ty_iald (cA := dA 0) (n := 53) (P := fun _ => True) hx hb hE.1 hG (by rw [(by rw [ha] : (Γ a).1 = 26)]; decide) (fun x h => by rw [TP_26 (by rw [ha] : (Γ a).1 = 26)] at h; exact h) 0 rfl hin hdg (fun j f hj hjn hf => kk j (f j) hj)
theorem ast_26 (hx : p.tables.exec = Jvm.exec) (hb : c.code = cc) (hE : en dC dI dA sz s) (hG : ty_ok (dC, dI) vwCl Γ (TP dA Γ g) sz X H) (hS0 : va_S (ty_A sz) H0 H locs) {ii : Nat} (ha : Γ a = (26, ii)) {x : Int32} {i : Int32} (hin : 0 ≤ i.toInt ∧ i.toInt < 53) (hdg : decode cc pc = .ok (.iastore, 1)) (kk : ∀ (H1 : Heap) (locs1 : List Loc), ty_ok (dC, dI) vwCl Γ (TP dA Γ g) sz X H1 → va_S (ty_A sz) H0 H1 locs1 → W p l e R s m args below meth c H1 locs1 cells slots Q (F0 m (pc + 1) ls rest)) : W p l e R s m args below meth c H locs cells slots Q (F0 m pc ls (.int x :: .int i :: .ref a :: rest)) :=
  ty_iast (T' := TP dA Γ g) (cA := dA 0) (n := 53) (P := fun _ => True) (P' := fun _ => True) hx hb hE.1 hG hS0 (by rw [(by rw [ha] : (Γ a).1 = 26)]; decide) (fun x h => by rw [TP_26 (by rw [ha] : (Γ a).1 = 26)] at h; exact h) (fun x h => by rw [TP_26 (by rw [ha] : (Γ a).1 = 26)]; exact h) 0 rfl hin (fun _ _ _ _ _ => trivial) (fun _ _ _ _ h => h) hdg kk
theorem alen_26 (hx : p.tables.exec = Jvm.exec) (hb : c.code = cc) (hE : en dC dI dA sz s) (hG : ty_ok (dC, dI) vwCl Γ (TP dA Γ g) sz X H) {ii : Nat} (ha : Γ a = (26, ii)) (hdg : decode cc pc = .ok (.arraylength, 1)) (kk : ∀ v : Int32, v.toInt = 53 → W p l e R s m args below meth c H locs cells slots Q (F0 m (pc + 1) ls (.int v :: rest))) : W p l e R s m args below meth c H locs cells slots Q (F0 m pc ls (.ref a :: rest)) :=
  ty_alen (cA := dA 0) (n := 53) (P := fun _ => True) hx hb hE.1 hG (by rw [(by rw [ha] : (Γ a).1 = 26)]; decide) (fun x h => by rw [TP_26 (by rw [ha] : (Γ a).1 = 26)] at h; exact h) 0 rfl (by decide) hdg kk
theorem ald_20 (hx : p.tables.exec = Jvm.exec) (hb : c.code = cc) (hE : en dC dI dA sz s) (hG : ty_ok (dC, dI) vwCl Γ (TP dA Γ g) sz X H) (ha : (Γ a).1 = 20) {i : Int32} (hin : 0 ≤ i.toInt ∧ i.toInt < 9) (hdg : decode cc pc = .ok (.iaload, 1)) (kk : ∀ (j : Nat) (x : Int32), (j : Int) = i.toInt → W p l e R s m args below meth c H locs cells slots Q (F0 m (pc + 1) ls (.int x :: rest))) : W p l e R s m args below meth c H locs cells slots Q (F0 m pc ls (.int i :: .ref a :: rest)) :=
  ty_iald (cA := dA 0) (n := 9) (P := fun _ => True) hx hb hE.1 hG (by rw [ha]; decide) (fun x h => by rw [TP_20 ha] at h; exact h) 0 rfl hin hdg (fun j f hj hjn hf => kk j (f j) hj)
theorem ast_20 (hx : p.tables.exec = Jvm.exec) (hb : c.code = cc) (hE : en dC dI dA sz s) (hG : ty_ok (dC, dI) vwCl Γ (TP dA Γ g) sz X H) (hS0 : va_S (ty_A sz) H0 H locs) (ha : (Γ a).1 = 20) {x : Int32} {i : Int32} (hin : 0 ≤ i.toInt ∧ i.toInt < 9) (hdg : decode cc pc = .ok (.iastore, 1)) (kk : ∀ (H1 : Heap) (locs1 : List Loc), ty_ok (dC, dI) vwCl Γ (TP dA Γ g) sz X H1 → va_S (ty_A sz) H0 H1 locs1 → W p l e R s m args below meth c H1 locs1 cells slots Q (F0 m (pc + 1) ls rest)) : W p l e R s m args below meth c H locs cells slots Q (F0 m pc ls (.int x :: .int i :: .ref a :: rest)) :=
  ty_iast (T' := TP dA Γ g) (cA := dA 0) (n := 9) (P := fun _ => True) (P' := fun _ => True) hx hb hE.1 hG hS0 (by rw [ha]; decide) (fun x h => by rw [TP_20 ha] at h; exact h) (fun x h => by rw [TP_20 ha]; exact h) 0 rfl hin (fun _ _ _ _ _ => trivial) (fun _ _ _ _ h => h) hdg kk
theorem ald_21 (hx : p.tables.exec = Jvm.exec) (hb : c.code = cc) (hE : en dC dI dA sz s) (hG : ty_ok (dC, dI) vwCl Γ (TP dA Γ g) sz X H) (ha : (Γ a).1 = 21) {i : Int32} (hin : 0 ≤ i.toInt ∧ i.toInt < 4608) (hdg : decode cc pc = .ok (.iaload, 1)) (kk : ∀ (j : Nat) (x : Int32), (j : Int) = i.toInt → W p l e R s m args below meth c H locs cells slots Q (F0 m (pc + 1) ls (.int x :: rest))) : W p l e R s m args below meth c H locs cells slots Q (F0 m pc ls (.int i :: .ref a :: rest)) :=
  ty_iald (cA := dA 0) (n := 4608) (P := fun _ => True) hx hb hE.1 hG (by rw [ha]; decide) (fun x h => by rw [TP_21 ha] at h; exact h) 0 rfl hin hdg (fun j f hj hjn hf => kk j (f j) hj)
theorem ast_21 (hx : p.tables.exec = Jvm.exec) (hb : c.code = cc) (hE : en dC dI dA sz s) (hG : ty_ok (dC, dI) vwCl Γ (TP dA Γ g) sz X H) (hS0 : va_S (ty_A sz) H0 H locs) (ha : (Γ a).1 = 21) {x : Int32} {i : Int32} (hin : 0 ≤ i.toInt ∧ i.toInt < 4608) (hdg : decode cc pc = .ok (.iastore, 1)) (kk : ∀ (H1 : Heap) (locs1 : List Loc), ty_ok (dC, dI) vwCl Γ (TP dA Γ g) sz X H1 → va_S (ty_A sz) H0 H1 locs1 → W p l e R s m args below meth c H1 locs1 cells slots Q (F0 m (pc + 1) ls rest)) : W p l e R s m args below meth c H locs cells slots Q (F0 m pc ls (.int x :: .int i :: .ref a :: rest)) :=
  ty_iast (T' := TP dA Γ g) (cA := dA 0) (n := 4608) (P := fun _ => True) (P' := fun _ => True) hx hb hE.1 hG hS0 (by rw [ha]; decide) (fun x h => by rw [TP_21 ha] at h; exact h) (fun x h => by rw [TP_21 ha]; exact h) 0 rfl hin (fun _ _ _ _ _ => trivial) (fun _ _ _ _ h => h) hdg kk
theorem ald_22 (hx : p.tables.exec = Jvm.exec) (hb : c.code = cc) (hE : en dC dI dA sz s) (hG : ty_ok (dC, dI) vwCl Γ (TP dA Γ g) sz X H) (ha : (Γ a).1 = 22) {i : Int32} (hin : 0 ≤ i.toInt ∧ i.toInt < 512) (hdg : decode cc pc = .ok (.iaload, 1)) (kk : ∀ (j : Nat) (x : Int32), (j : Int) = i.toInt → W p l e R s m args below meth c H locs cells slots Q (F0 m (pc + 1) ls (.int x :: rest))) : W p l e R s m args below meth c H locs cells slots Q (F0 m pc ls (.int i :: .ref a :: rest)) :=
  ty_iald (cA := dA 0) (n := 512) (P := fun _ => True) hx hb hE.1 hG (by rw [ha]; decide) (fun x h => by rw [TP_22 ha] at h; exact h) 0 rfl hin hdg (fun j f hj hjn hf => kk j (f j) hj)
theorem ast_22 (hx : p.tables.exec = Jvm.exec) (hb : c.code = cc) (hE : en dC dI dA sz s) (hG : ty_ok (dC, dI) vwCl Γ (TP dA Γ g) sz X H) (hS0 : va_S (ty_A sz) H0 H locs) (ha : (Γ a).1 = 22) {x : Int32} {i : Int32} (hin : 0 ≤ i.toInt ∧ i.toInt < 512) (hdg : decode cc pc = .ok (.iastore, 1)) (kk : ∀ (H1 : Heap) (locs1 : List Loc), ty_ok (dC, dI) vwCl Γ (TP dA Γ g) sz X H1 → va_S (ty_A sz) H0 H1 locs1 → W p l e R s m args below meth c H1 locs1 cells slots Q (F0 m (pc + 1) ls rest)) : W p l e R s m args below meth c H locs cells slots Q (F0 m pc ls (.int x :: .int i :: .ref a :: rest)) :=
  ty_iast (T' := TP dA Γ g) (cA := dA 0) (n := 512) (P := fun _ => True) (P' := fun _ => True) hx hb hE.1 hG hS0 (by rw [ha]; decide) (fun x h => by rw [TP_22 ha] at h; exact h) (fun x h => by rw [TP_22 ha]; exact h) 0 rfl hin (fun _ _ _ _ _ => trivial) (fun _ _ _ _ h => h) hdg kk
theorem ald_23 (hx : p.tables.exec = Jvm.exec) (hb : c.code = cc) (hE : en dC dI dA sz s) (hG : ty_ok (dC, dI) vwCl Γ (TP dA Γ g) sz X H) (ha : (Γ a).1 = 23) {i : Int32} (hin : 0 ≤ i.toInt ∧ i.toInt < 10) (hdg : decode cc pc = .ok (.iaload, 1)) (kk : ∀ (j : Nat) (x : Int32), (j : Int) = i.toInt → W p l e R s m args below meth c H locs cells slots Q (F0 m (pc + 1) ls (.int x :: rest))) : W p l e R s m args below meth c H locs cells slots Q (F0 m pc ls (.int i :: .ref a :: rest)) :=
  ty_iald (cA := dA 0) (n := 10) (P := fun _ => True) hx hb hE.1 hG (by rw [ha]; decide) (fun x h => by rw [TP_23 ha] at h; exact h) 0 rfl hin hdg (fun j f hj hjn hf => kk j (f j) hj)
theorem ast_23 (hx : p.tables.exec = Jvm.exec) (hb : c.code = cc) (hE : en dC dI dA sz s) (hG : ty_ok (dC, dI) vwCl Γ (TP dA Γ g) sz X H) (hS0 : va_S (ty_A sz) H0 H locs) (ha : (Γ a).1 = 23) {x : Int32} {i : Int32} (hin : 0 ≤ i.toInt ∧ i.toInt < 10) (hdg : decode cc pc = .ok (.iastore, 1)) (kk : ∀ (H1 : Heap) (locs1 : List Loc), ty_ok (dC, dI) vwCl Γ (TP dA Γ g) sz X H1 → va_S (ty_A sz) H0 H1 locs1 → W p l e R s m args below meth c H1 locs1 cells slots Q (F0 m (pc + 1) ls rest)) : W p l e R s m args below meth c H locs cells slots Q (F0 m pc ls (.int x :: .int i :: .ref a :: rest)) :=
  ty_iast (T' := TP dA Γ g) (cA := dA 0) (n := 10) (P := fun _ => True) (P' := fun _ => True) hx hb hE.1 hG hS0 (by rw [ha]; decide) (fun x h => by rw [TP_23 ha] at h; exact h) (fun x h => by rw [TP_23 ha]; exact h) 0 rfl hin (fun _ _ _ _ _ => trivial) (fun _ _ _ _ h => h) hdg kk
theorem ald_14 (hx : p.tables.exec = Jvm.exec) (hb : c.code = cc) (hE : en dC dI dA sz s) (hG : ty_ok (dC, dI) vwCl Γ (TP dA Γ g) sz X H) (ha : (Γ a).1 = 14) {i : Int32} (hin : 0 ≤ i.toInt ∧ i.toInt < 53) (hdg : decode cc pc = .ok (.baload, 1)) (kk : ∀ (j : Nat) (x : Int32), (j : Int) = i.toInt → (x.toInt = 0 ∨ x.toInt = 1) → W p l e R s m args below meth c H locs cells slots Q (F0 m (pc + 1) ls (.int x :: rest))) : W p l e R s m args below meth c H locs cells slots Q (F0 m pc ls (.int i :: .ref a :: rest)) :=
  ty_zald (cA := dA 1) (n := 53) (P := aB 53) hx hb hE.1 hG (by rw [ha]; decide) (fun x h => by rw [TP_14 ha] at h; exact h) 1 rfl hin hdg (fun j f hj hjn hf => kk j (f j) hj (hf j hjn))
theorem ast_14 (hx : p.tables.exec = Jvm.exec) (hb : c.code = cc) (hE : en dC dI dA sz s) (hG : ty_ok (dC, dI) vwCl Γ (TP dA Γ g) sz X H) (hS0 : va_S (ty_A sz) H0 H locs) (ha : (Γ a).1 = 14) {x : Int32} (h01 : x.toInt = 0 ∨ x.toInt = 1) {i : Int32} (hin : 0 ≤ i.toInt ∧ i.toInt < 53) (hdg : decode cc pc = .ok (.bastore, 1)) (kk : ∀ (H1 : Heap) (locs1 : List Loc), ty_ok (dC, dI) vwCl Γ (TP dA Γ g) sz X H1 → va_S (ty_A sz) H0 H1 locs1 → W p l e R s m args below meth c H1 locs1 cells slots Q (F0 m (pc + 1) ls rest)) : W p l e R s m args below meth c H locs cells slots Q (F0 m pc ls (.int x :: .int i :: .ref a :: rest)) := by
  refine ty_zast (T' := TP dA Γ g) (cA := dA 1) (n := 53) (P := aB 53) (P' := aB 53) hx hb hE.1 hG hS0 (by rw [ha]; decide) (fun x h => by rw [TP_14 ha] at h; exact h) (fun x h => by rw [TP_14 ha]; exact h) 1 rfl hin (fun j f hj hjn hf j' hj' => ?_) (fun _ _ _ _ h => h) hdg kk
  rw [(ty_nb h01).2.2]
  by_cases e : j' = j
  · subst e; simpa [upd] using h01
  · simpa [upd, e] using hf j' hj'
theorem ald_24 (hx : p.tables.exec = Jvm.exec) (hb : c.code = cc) (hE : en dC dI dA sz s) (hG : ty_ok (dC, dI) vwCl Γ (TP dA Γ g) sz X H) (ha : (Γ a).1 = 24) {i : Int32} (hin : 0 ≤ i.toInt ∧ i.toInt < 10) (hdg : decode cc pc = .ok (.baload, 1)) (kk : ∀ (j : Nat) (x : Int32), (j : Int) = i.toInt → (x.toInt = 0 ∨ x.toInt = 1) → W p l e R s m args below meth c H locs cells slots Q (F0 m (pc + 1) ls (.int x :: rest))) : W p l e R s m args below meth c H locs cells slots Q (F0 m pc ls (.int i :: .ref a :: rest)) :=
  ty_zald (cA := dA 1) (n := 10) (P := aB 10) hx hb hE.1 hG (by rw [ha]; decide) (fun x h => by rw [TP_24 ha] at h; exact h) 1 rfl hin hdg (fun j f hj hjn hf => kk j (f j) hj (hf j hjn))
theorem ast_24 (hx : p.tables.exec = Jvm.exec) (hb : c.code = cc) (hE : en dC dI dA sz s) (hG : ty_ok (dC, dI) vwCl Γ (TP dA Γ g) sz X H) (hS0 : va_S (ty_A sz) H0 H locs) (ha : (Γ a).1 = 24) {x : Int32} (h01 : x.toInt = 0 ∨ x.toInt = 1) {i : Int32} (hin : 0 ≤ i.toInt ∧ i.toInt < 10) (hdg : decode cc pc = .ok (.bastore, 1)) (kk : ∀ (H1 : Heap) (locs1 : List Loc), ty_ok (dC, dI) vwCl Γ (TP dA Γ g) sz X H1 → va_S (ty_A sz) H0 H1 locs1 → W p l e R s m args below meth c H1 locs1 cells slots Q (F0 m (pc + 1) ls rest)) : W p l e R s m args below meth c H locs cells slots Q (F0 m pc ls (.int x :: .int i :: .ref a :: rest)) := by
  refine ty_zast (T' := TP dA Γ g) (cA := dA 1) (n := 10) (P := aB 10) (P' := aB 10) hx hb hE.1 hG hS0 (by rw [ha]; decide) (fun x h => by rw [TP_24 ha] at h; exact h) (fun x h => by rw [TP_24 ha]; exact h) 1 rfl hin (fun j f hj hjn hf j' hj' => ?_) (fun _ _ _ _ h => h) hdg kk
  rw [(ty_nb h01).2.2]
  by_cases e : j' = j
  · subst e; simpa [upd] using h01
  · simpa [upd, e] using hf j' hj'
theorem ald_mI (hx : p.tables.exec = Jvm.exec) (hb : c.code = cc) (hE : en dC dI dA sz s) (hG : ty_ok (dC, dI) vwCl Γ (TP dA Γ g) sz X H) (k : Nat) (hc : mC k = 0) {n : Nat} (hn : mN k = n) {lo hi : Int} (hlo : mLo k = lo) (hhi : mHi k = hi) (ha : (Γ a).1 = 100 + k) {i : Int32} (hin : 0 ≤ i.toInt ∧ i.toInt < n) (hdg : decode cc pc = .ok (.iaload, 1)) (kk : ∀ (j : Nat) (x : Int32), (j : Int) = i.toInt → x.toInt = g (100 + k) j → lo ≤ x.toInt ∧ x.toInt ≤ hi → W p l e R s m args below meth c H locs cells slots Q (F0 m (pc + 1) ls (.int x :: rest))) : W p l e R s m args below meth c H locs cells slots Q (F0 m pc ls (.int i :: .ref a :: rest)) := by
  subst hn hlo hhi
  exact ty_iald (cA := dA 0) (n := mN k) (P := aM k g) hx hb hE.1 hG (by rw [ha]; omega) (fun x h => by rw [TP_m ha, hc] at h; exact h) 0 rfl hin hdg (fun j f hj hjn hf => kk j (f j) hj (by have := hf.1 j hjn; simpa using this) (hf.2 j hjn))
theorem ast_mI (hx : p.tables.exec = Jvm.exec) (hb : c.code = cc) (hE : en dC dI dA sz s) (hG : ty_ok (dC, dI) vwCl Γ (TP dA Γ g) sz X H) (hS0 : va_S (ty_A sz) H0 H locs) (hU : Un Γ) (k : Nat) (hc : mC k = 0) {n : Nat} (hn : mN k = n) {lo hi : Int} (hlo : mLo k = lo) (hhi : mHi k = hi) (hm : mA k = true) (ha : (Γ a).1 = 100 + k) {x : Int32} (hv : lo ≤ x.toInt ∧ x.toInt ≤ hi) {i : Int32} (hin : 0 ≤ i.toInt ∧ i.toInt < n) (hdg : decode cc pc = .ok (.iastore, 1)) (kk : ∀ (H1 : Heap) (locs1 : List Loc), ty_ok (dC, dI) vwCl Γ (TP dA Γ (gs g (100 + k) i.toInt.toNat x.toInt)) sz X H1 → va_S (ty_A sz) H0 H1 locs1 → W p l e R s m args below meth c H1 locs1 cells slots Q (F0 m (pc + 1) ls rest)) : W p l e R s m args below meth c H locs cells slots Q (F0 m pc ls (.int x :: .int i :: .ref a :: rest)) := by
  subst hn hlo hhi
  refine ty_iast (T' := TP dA Γ (gs g (100 + k) i.toInt.toNat x.toInt)) (cA := dA 0) (n := mN k) (P := aM k g) (P' := aM k (gs g (100 + k) i.toInt.toNat x.toInt)) hx hb hE.1 hG hS0 (by rw [ha]; omega) (fun x h => by rw [TP_m ha, hc] at h; exact h) (fun x h => by rw [TP_m ha, hc]; exact h) 0 rfl hin (fun j f hj hjn hf => ⟨fun j' hj' => ?_, fun j' hj' => ?_⟩) (fun b y hb h0 h => ?_) hdg kk
  · obtain rfl : j = i.toInt.toNat := by omega
    by_cases e : j' = i.toInt.toNat
    · subst e; simp [upd, gs]
    · have := hf.1 j' hj'
      simp only [upd, e, if_false]
      rw [gs_j _ _ _ _ (by omega)]; exact this
  · by_cases e : j' = j
    · subst e; simpa [upd] using hv
    · simpa [upd, e] using hf.2 j' hj'
  · by_cases e30 : (Γ b).1 = 30
    · rw [TP_30 e30] at h ⊢
      refine h.mono (fun q v hv => ?_)
      unfold F9 at hv ⊢
      by_cases e : mA q = true
      · rw [if_pos e] at hv ⊢; exact hv
      · rw [if_neg e] at hv ⊢
        rw [gs_c _ _ _ _ (fun e2 => e (by rw [show q = k by omega]; exact hm))]
        exact hv
    · exact TP_gs (by rw [dpt_m]; simp [e30, hU.one ha (by simp [sg]) hb]) h
theorem ald_mZ (hx : p.tables.exec = Jvm.exec) (hb : c.code = cc) (hE : en dC dI dA sz s) (hG : ty_ok (dC, dI) vwCl Γ (TP dA Γ g) sz X H) (k : Nat) (hc : mC k = 1) {n : Nat} (hn : mN k = n) {lo hi : Int} (hlo : mLo k = lo) (hhi : mHi k = hi) (ha : (Γ a).1 = 100 + k) {i : Int32} (hin : 0 ≤ i.toInt ∧ i.toInt < n) (hdg : decode cc pc = .ok (.baload, 1)) (kk : ∀ (j : Nat) (x : Int32), (j : Int) = i.toInt → x.toInt = g (100 + k) j → lo ≤ x.toInt ∧ x.toInt ≤ hi → W p l e R s m args below meth c H locs cells slots Q (F0 m (pc + 1) ls (.int x :: rest))) : W p l e R s m args below meth c H locs cells slots Q (F0 m pc ls (.int i :: .ref a :: rest)) := by
  subst hn hlo hhi
  exact ty_zald (cA := dA 1) (n := mN k) (P := aM k g) hx hb hE.1 hG (by rw [ha]; omega) (fun x h => by rw [TP_m ha, hc] at h; exact h) 1 rfl hin hdg (fun j f hj hjn hf => kk j (f j) hj (by have := hf.1 j hjn; simpa using this) (hf.2 j hjn))
theorem ast_mZ (hx : p.tables.exec = Jvm.exec) (hb : c.code = cc) (hE : en dC dI dA sz s) (hG : ty_ok (dC, dI) vwCl Γ (TP dA Γ g) sz X H) (hS0 : va_S (ty_A sz) H0 H locs) (hU : Un Γ) (k : Nat) (hc : mC k = 1) {n : Nat} (hn : mN k = n) {lo hi : Int} (hlo : mLo k = lo) (hhi : mHi k = hi) (hm : mA k = true) (ha : (Γ a).1 = 100 + k) {x : Int32} (h01 : x.toInt = 0 ∨ x.toInt = 1) (hv : lo ≤ x.toInt ∧ x.toInt ≤ hi) {i : Int32} (hin : 0 ≤ i.toInt ∧ i.toInt < n) (hdg : decode cc pc = .ok (.bastore, 1)) (kk : ∀ (H1 : Heap) (locs1 : List Loc), ty_ok (dC, dI) vwCl Γ (TP dA Γ (gs g (100 + k) i.toInt.toNat x.toInt)) sz X H1 → va_S (ty_A sz) H0 H1 locs1 → W p l e R s m args below meth c H1 locs1 cells slots Q (F0 m (pc + 1) ls rest)) : W p l e R s m args below meth c H locs cells slots Q (F0 m pc ls (.int x :: .int i :: .ref a :: rest)) := by
  subst hn hlo hhi
  have e9 := (ty_nb h01).2.2
  refine ty_zast (T' := TP dA Γ (gs g (100 + k) i.toInt.toNat x.toInt)) (cA := dA 1) (n := mN k) (P := aM k g) (P' := aM k (gs g (100 + k) i.toInt.toNat x.toInt)) hx hb hE.1 hG hS0 (by rw [ha]; omega) (fun x h => by rw [TP_m ha, hc] at h; exact h) (fun x h => by rw [TP_m ha, hc]; exact h) 1 rfl hin (fun j f hj hjn hf => ⟨fun j' hj' => ?_, fun j' hj' => ?_⟩) (fun b y hb h0 h => ?_) hdg kk
  · obtain rfl : j = i.toInt.toNat := by omega
    rw [e9]; by_cases e : j' = i.toInt.toNat
    · subst e; simp [upd, gs]
    · have := hf.1 j' hj'
      simp only [upd, e, if_false]
      rw [gs_j _ _ _ _ (by omega)]; exact this
  · rw [e9]; by_cases e : j' = j
    · subst e; simpa [upd] using hv
    · simpa [upd, e] using hf.2 j' hj'
  · by_cases e30 : (Γ b).1 = 30
    · rw [TP_30 e30] at h ⊢
      refine h.mono (fun q v hv => ?_)
      unfold F9 at hv ⊢
      by_cases e : mA q = true
      · rw [if_pos e] at hv ⊢; exact hv
      · rw [if_neg e] at hv ⊢
        rw [gs_c _ _ _ _ (fun e2 => e (by rw [show q = k by omega]; exact hm))]
        exact hv
    · exact TP_gs (by rw [dpt_m]; simp [e30, hU.one ha (by simp [sg]) hb]) h
theorem ald_mB (hx : p.tables.exec = Jvm.exec) (hb : c.code = cc) (hE : en dC dI dA sz s) (hG : ty_ok (dC, dI) vwCl Γ (TP dA Γ g) sz X H) (k : Nat) (hc : mC k = 2) {n : Nat} (hn : mN k = n) {lo hi : Int} (hlo : mLo k = lo) (hhi : mHi k = hi) (ha : (Γ a).1 = 100 + k) {i : Int32} (hin : 0 ≤ i.toInt ∧ i.toInt < n) (hdg : decode cc pc = .ok (.baload, 1)) (kk : ∀ (j : Nat) (x : Int32), (j : Int) = i.toInt → x.toInt = g (100 + k) j → lo ≤ x.toInt ∧ x.toInt ≤ hi → W p l e R s m args below meth c H locs cells slots Q (F0 m (pc + 1) ls (.int x :: rest))) : W p l e R s m args below meth c H locs cells slots Q (F0 m pc ls (.int i :: .ref a :: rest)) := by
  subst hn hlo hhi
  exact ty_bald (cA := dA 2) (n := mN k) (P := aM k g) hx hb hE.1 hG (by rw [ha]; omega) (fun x h => by rw [TP_m ha, hc] at h; exact h) 2 rfl hin hdg (fun j f hj hjn hf => kk j (f j) hj (by have := hf.1 j hjn; simpa using this) (hf.2 j hjn))
theorem ast_mB (hx : p.tables.exec = Jvm.exec) (hb : c.code = cc) (hE : en dC dI dA sz s) (hG : ty_ok (dC, dI) vwCl Γ (TP dA Γ g) sz X H) (hS0 : va_S (ty_A sz) H0 H locs) (hU : Un Γ) (k : Nat) (hc : mC k = 2) {n : Nat} (hn : mN k = n) {lo hi : Int} (hlo : mLo k = lo) (hhi : mHi k = hi) (hm : mA k = true) (ha : (Γ a).1 = 100 + k) {x : Int32} (hv : lo ≤ (vp_nar .byte x).toInt ∧ (vp_nar .byte x).toInt ≤ hi) {i : Int32} (hin : 0 ≤ i.toInt ∧ i.toInt < n) (hdg : decode cc pc = .ok (.bastore, 1)) (kk : ∀ (H1 : Heap) (locs1 : List Loc), ty_ok (dC, dI) vwCl Γ (TP dA Γ (gs g (100 + k) i.toInt.toNat (vp_nar .byte x).toInt)) sz X H1 → va_S (ty_A sz) H0 H1 locs1 → W p l e R s m args below meth c H1 locs1 cells slots Q (F0 m (pc + 1) ls rest)) : W p l e R s m args below meth c H locs cells slots Q (F0 m pc ls (.int x :: .int i :: .ref a :: rest)) := by
  subst hn hlo hhi
  refine ty_bast (T' := TP dA Γ (gs g (100 + k) i.toInt.toNat (vp_nar .byte x).toInt)) (cA := dA 2) (n := mN k) (P := aM k g) (P' := aM k (gs g (100 + k) i.toInt.toNat (vp_nar .byte x).toInt)) hx hb hE.1 hG hS0 (by rw [ha]; omega) (fun x h => by rw [TP_m ha, hc] at h; exact h) (fun x h => by rw [TP_m ha, hc]; exact h) 2 rfl hin (fun j f hj hjn hf => ⟨fun j' hj' => ?_, fun j' hj' => ?_⟩) (fun b y hb h0 h => ?_) hdg kk
  · obtain rfl : j = i.toInt.toNat := by omega
    by_cases e : j' = i.toInt.toNat
    · subst e; simp [upd, gs]
    · have := hf.1 j' hj'
      simp only [upd, e, if_false]
      rw [gs_j _ _ _ _ (by omega)]; exact this
  · by_cases e : j' = j
    · subst e; simpa [upd] using hv
    · simpa [upd, e] using hf.2 j' hj'
  · by_cases e30 : (Γ b).1 = 30
    · rw [TP_30 e30] at h ⊢
      refine h.mono (fun q v hv => ?_)
      unfold F9 at hv ⊢
      by_cases e : mA q = true
      · rw [if_pos e] at hv ⊢; exact hv
      · rw [if_neg e] at hv ⊢
        rw [gs_c _ _ _ _ (fun e2 => e (by rw [show q = k by omega]; exact hm))]
        exact hv
    · exact TP_gs (by rw [dpt_m]; simp [e30, hU.one ha (by simp [sg]) hb]) h
theorem ald_10 (hx : p.tables.exec = Jvm.exec) (hb : c.code = cc) (hE : en dC dI dA sz s) (hG : ty_ok (dC, dI) vwCl Γ (TP dA Γ g) sz X H) (ha : (Γ a).1 = 10) {i : Int32} (hin : 0 ≤ i.toInt ∧ i.toInt < 6) (hdg : decode cc pc = .ok (.aaload, 1)) (kk : ∀ (j : Nat) (r : Option Nat), (j : Int) = i.toInt → (∀ b, r = some b → (Γ b).1 = 2) → ((j : Int) < g 33 0 → r ≠ none) → W p l e R s m args below meth c H locs cells slots Q (F0 m (pc + 1) ls (va_rf r :: rest))) : W p l e R s m args below meth c H locs cells slots Q (F0 m pc ls (.int i :: .ref a :: rest)) :=
  ty_aald (cA := dA 4) (C := RX1) (n := 6) (P := aR Γ 2 6 (g 33 0)) hx hb hE.1 hG (by rw [ha]; decide) (fun x h => by rw [TP_10 ha] at h; exact h) 4 rfl hin hdg (fun j f hj hjn hf => kk j (f j) hj (hf j hjn).1 (hf j hjn).2)
/-- the next place of a row that is filled from below -/
theorem ast_10 (hx : p.tables.exec = Jvm.exec) (hb : c.code = cc) (hE : en dC dI dA sz s) (hG : ty_ok (dC, dI) vwCl Γ (TP dA Γ g) sz X H) (hS0 : va_S (ty_A sz) H0 H locs) (hU : Un Γ) (ha : (Γ a).1 = 10) {v : Nat} (hv : (Γ v).1 = 2) {i : Int32} (hin : 0 ≤ i.toInt ∧ i.toInt < 6) (hi : i.toInt = g 33 0) (hdg : decode cc pc = .ok (.aastore, 1)) (kk : ∀ (H1 : Heap) (locs1 : List Loc), ty_ok (dC, dI) vwCl Γ (TP dA Γ (gs g 33 0 (i.toInt + 1))) sz X H1 → va_S (ty_A sz) H0 H1 locs1 → W p l e R s m args below meth c H1 locs1 cells slots Q (F0 m (pc + 1) ls rest)) : W p l e R s m args below meth c H locs cells slots Q (F0 m pc ls (.ref v :: .int i :: .ref a :: rest)) := by
  obtain ⟨-, y, h2, h3⟩ := hG.2.1 v (by rw [hv]; decide)
  rw [TP_2 hv] at h3
  obtain ⟨vs, rfl, -⟩ := h3
  refine ty_aastS (T' := TP dA Γ (gs g 33 0 (i.toInt + 1))) (cA := dA 4) (r := vwCl[1]) (n := 6) (P := aR Γ 2 6 (g 33 0)) (P' := aR Γ 2 6 (i.toInt + 1)) hx hb hE.1 hG hS0 (by rw [ha]; decide) (fun x h => by rw [TP_10 ha] at h; exact h) (fun x h => by rw [TP_10 ha, gs_self]; exact h) 4 rfl h2 rfl hin (fun j f hj hjn hf j' hj' => ?_) (fun b y hb h0 h => TP_gs (by show ((Γ b).1 == 10) = false; exact beq_eq_false_iff_ne.mpr (hU.one ha rfl hb)) h) hdg (fun H1 locs1 q1 q2 _ => kk H1 locs1 q1 q2)
  by_cases e : j' = j
  · subst e; rw [va_up_self]; exact ⟨fun b hb => by cases hb; exact hv, fun _ h => by cases h⟩
  · rw [va_up_ne _ _ e]; exact ⟨(hf j' hj').1, fun h => (hf j' hj').2 (by omega)⟩
theorem ald_11 (hx : p.tables.exec = Jvm.exec) (hb : c.code = cc) (hE : en dC dI dA sz s) (hG : ty_ok (dC, dI) vwCl Γ (TP dA Γ g) sz X H) (ha : (Γ a).1 = 11) {i : Int32} (hin : 0 ≤ i.toInt ∧ i.toInt < 10) (hdg : decode cc pc = .ok (.aaload, 1)) (kk : ∀ (j : Nat) (r : Option Nat), (j : Int) = i.toInt → (∀ b, r = some b → (Γ b).1 = 3) → ((j : Int) < g 34 0 → r ≠ none) → W p l e R s m args below meth c H locs cells slots Q (F0 m (pc + 1) ls (va_rf r :: rest))) : W p l e R s m args below meth c H locs cells slots Q (F0 m pc ls (.int i :: .ref a :: rest)) :=
  ty_aald (cA := dA 5) (C := RX3) (n := 10) (P := aR Γ 3 10 (g 34 0)) hx hb hE.1 hG (by rw [ha]; decide) (fun x h => by rw [TP_11 ha] at h; exact h) 5 rfl hin hdg (fun j f hj hjn hf => kk j (f j) hj (hf j hjn).1 (hf j hjn).2)
/-- the next place of a row that is filled from below -/
theorem ast_11 (hx : p.tables.exec = Jvm.exec) (hb : c.code = cc) (hE : en dC dI dA sz s) (hG : ty_ok (dC, dI) vwCl Γ (TP dA Γ g) sz X H) (hS0 : va_S (ty_A sz) H0 H locs) (hU : Un Γ) (ha : (Γ a).1 = 11) {v : Nat} (hv : (Γ v).1 = 3) {i : Int32} (hin : 0 ≤ i.toInt ∧ i.toInt < 10) (hi : i.toInt = g 34 0) (hdg : decode cc pc = .ok (.aastore, 1)) (kk : ∀ (H1 : Heap) (locs1 : List Loc), ty_ok (dC, dI) vwCl Γ (TP dA Γ (gs g 34 0 (i.toInt + 1))) sz X H1 → va_S (ty_A sz) H0 H1 locs1 → W p l e R s m args below meth c H1 locs1 cells slots Q (F0 m (pc + 1) ls rest)) : W p l e R s m args below meth c H locs cells slots Q (F0 m pc ls (.ref v :: .int i :: .ref a :: rest)) := by
  obtain ⟨-, y, h2, h3⟩ := hG.2.1 v (by rw [hv]; decide)
  rw [TP_3 hv] at h3
  obtain ⟨vs, rfl, -⟩ := h3
  refine ty_aastS (T' := TP dA Γ (gs g 34 0 (i.toInt + 1))) (cA := dA 5) (r := vwCl[3]) (n := 10) (P := aR Γ 3 10 (g 34 0)) (P' := aR Γ 3 10 (i.toInt + 1)) hx hb hE.1 hG hS0 (by rw [ha]; decide) (fun x h => by rw [TP_11 ha] at h; exact h) (fun x h => by rw [TP_11 ha, gs_self]; exact h) 5 rfl h2 rfl hin (fun j f hj hjn hf j' hj' => ?_) (fun b y hb h0 h => TP_gs (by show ((Γ b).1 == 11) = false; exact beq_eq_false_iff_ne.mpr (hU.one ha rfl hb)) h) hdg (fun H1 locs1 q1 q2 _ => kk H1 locs1 q1 q2)
  by_cases e : j' = j
  · subst e; rw [va_up_self]; exact ⟨fun b hb => by cases hb; exact hv, fun _ h => by cases h⟩
  · rw [va_up_ne _ _ e]; exact ⟨(hf j' hj').1, fun h => (hf j' hj').2 (by omega)⟩
theorem ald_12 (hx : p.tables.exec = Jvm.exec) (hb : c.code = cc) (hE : en dC dI dA sz s) (hG : ty_ok (dC, dI) vwCl Γ (TP dA Γ g) sz X H) (ha : (Γ a).1 = 12) {i : Int32} (hin : 0 ≤ i.toInt ∧ i.toInt < 200) (hdg : decode cc pc = .ok (.aaload, 1)) (kk : ∀ (j : Nat) (r : Option Nat), (j : Int) = i.toInt → (∀ b, r = some b → (Γ b).1 = 4) → ((j : Int) < g 35 0 → r ≠ none) → W p l e R s m args below meth c H locs cells slots Q (F0 m (pc + 1) ls (va_rf r :: rest))) : W p l e R s m args below meth c H locs cells slots Q (F0 m pc ls (.int i :: .ref a :: rest)) :=
  ty_aald (cA := dA 6) (C := RX2) (n := 200) (P := aR Γ 4 200 (g 35 0)) hx hb hE.1 hG (by rw [ha]; decide) (fun x h => by rw [TP_12 ha] at h; exact h) 6 rfl hin hdg (fun j f hj hjn hf => kk j (f j) hj (hf j hjn).1 (hf j hjn).2)
/-- the next place of a row that is filled from below -/
theorem ast_12 (hx : p.tables.exec = Jvm.exec) (hb : c.code = cc) (hE : en dC dI dA sz s) (hG : ty_ok (dC, dI) vwCl Γ (TP dA Γ g) sz X H) (hS0 : va_S (ty_A sz) H0 H locs) (hU : Un Γ) (ha : (Γ a).1 = 12) {v : Nat} (hv : (Γ v).1 = 4) {i : Int32} (hin : 0 ≤ i.toInt ∧ i.toInt < 200) (hi : i.toInt = g 35 0) (hdg : decode cc pc = .ok (.aastore, 1)) (kk : ∀ (H1 : Heap) (locs1 : List Loc), ty_ok (dC, dI) vwCl Γ (TP dA Γ (gs g 35 0 (i.toInt + 1))) sz X H1 → va_S (ty_A sz) H0 H1 locs1 → W p l e R s m args below meth c H1 locs1 cells slots Q (F0 m (pc + 1) ls rest)) : W p l e R s m args below meth c H locs cells slots Q (F0 m pc ls (.ref v :: .int i :: .ref a :: rest)) := by
  obtain ⟨-, y, h2, h3⟩ := hG.2.1 v (by rw [hv]; decide)
  rw [TP_4 hv] at h3
  obtain ⟨vs, rfl, -⟩ := h3
  refine ty_aastS (T' := TP dA Γ (gs g 35 0 (i.toInt + 1))) (cA := dA 6) (r := vwCl[2]) (n := 200) (P := aR Γ 4 200 (g 35 0)) (P' := aR Γ 4 200 (i.toInt + 1)) hx hb hE.1 hG hS0 (by rw [ha]; decide) (fun x h => by rw [TP_12 ha] at h; exact h) (fun x h => by rw [TP_12 ha, gs_self]; exact h) 6 rfl h2 rfl hin (fun j f hj hjn hf j' hj' => ?_) (fun b y hb h0 h => TP_gs (by show ((Γ b).1 == 12) = false; exact beq_eq_false_iff_ne.mpr (hU.one ha rfl hb)) h) hdg (fun H1 locs1 q1 q2 _ => kk H1 locs1 q1 q2)
  by_cases e : j' = j
  · subst e; rw [va_up_self]; exact ⟨fun b hb => by cases hb; exact hv, fun _ h => by cases h⟩
  · rw [va_up_ne _ _ e]; exact ⟨(hf j' hj').1, fun h => (hf j' hj').2 (by omega)⟩
theorem ald_13 (hx : p.tables.exec = Jvm.exec) (hb : c.code = cc) (hE : en dC dI dA sz s) (hG : ty_ok (dC, dI) vwCl Γ (TP dA Γ g) sz X H) (ha : (Γ a).1 = 13) {i : Int32} (hin : 0 ≤ i.toInt ∧ i.toInt < 53) (hdg : decode cc pc = .ok (.aaload, 1)) (kk : ∀ (j : Nat) (r : Option Nat), (j : Int) = i.toInt → (∀ b, r = some b → (Γ b).1 = 3) → W p l e R s m args below meth c H locs cells slots Q (F0 m (pc + 1) ls (va_rf r :: rest))) : W p l e R s m args below meth c H locs cells slots Q (F0 m pc ls (.int i :: .ref a :: rest)) :=
  ty_aald (cA := dA 5) (C := RX3) (n := 53) (P := aR Γ 3 53 (0)) hx hb hE.1 hG (by rw [ha]; decide) (fun x h => by rw [TP_13 ha] at h; exact h) 5 rfl hin hdg (fun j f hj hjn hf => kk j (f j) hj (hf j hjn).1)
theorem ast_13 (hx : p.tables.exec = Jvm.exec) (hb : c.code = cc) (hE : en dC dI dA sz s) (hG : ty_ok (dC, dI) vwCl Γ (TP dA Γ g) sz X H) (hS0 : va_S (ty_A sz) H0 H locs) (ha : (Γ a).1 = 13) {r : Option Nat} (hr : ∀ b, r = some b → (Γ b).1 = 3) {i : Int32} (hin : 0 ≤ i.toInt ∧ i.toInt < 53) (hdg : decode cc pc = .ok (.aastore, 1)) (kk : ∀ (H1 : Heap) (locs1 : List Loc), ty_ok (dC, dI) vwCl Γ (TP dA Γ g) sz X H1 → va_S (ty_A sz) H0 H1 locs1 → W p l e R s m args below meth c H1 locs1 cells slots Q (F0 m (pc + 1) ls rest)) : W p l e R s m args below meth c H locs cells slots Q (F0 m pc ls (va_rf r :: .int i :: .ref a :: rest)) := by
  have key : ∀ (j : Nat) (f : Nat → Option Nat), aR Γ 3 53 0 f → aR Γ 3 53 0 (va_up f j r) := fun j f hf j' hj' => by
    by_cases e : j' = j
    · subst e; rw [va_up_self]; exact ⟨hr, fun h => absurd h (by omega)⟩
    · rw [va_up_ne _ _ e]; exact hf j' hj'
  cases r with
  | none => exact ty_aastN (T' := TP dA Γ g) (cA := dA 5) (C := RX3) (n := 53) (P := aR Γ 3 53 0) (P' := aR Γ 3 53 0) hx hb hE.1 hG hS0 (by rw [ha]; decide) (fun x h => by rw [TP_13 ha] at h; exact h) (fun x h => by rw [TP_13 ha]; exact h) 5 rfl hin (fun j f _ _ hf => key j f hf) (fun _ _ _ _ h => h) hdg kk
  | some v =>
    have hv := hr v rfl
    obtain ⟨-, y, h2, h3⟩ := hG.2.1 v (by rw [hv]; decide)
    rw [TP_3 hv] at h3
    obtain ⟨vs, rfl, -⟩ := h3
    exact ty_aastS (T' := TP dA Γ g) (cA := dA 5) (r := vwCl[3]) (n := 53) (P := aR Γ 3 53 0) (P' := aR Γ 3 53 0) hx hb hE.1 hG hS0 (by rw [ha]; decide) (fun x h => by rw [TP_13 ha] at h; exact h) (fun x h => by rw [TP_13 ha]; exact h) 5 rfl h2 rfl hin (fun j f _ _ hf => key j f hf) (fun _ _ _ _ h => h) hdg (fun H1 locs1 q1 q2 _ => kk H1 locs1 q1 q2)
theorem ald_15 (hx : p.tables.exec = Jvm.exec) (hb : c.code = cc) (hE : en dC dI dA sz s) (hG : ty_ok (dC, dI) vwCl Γ (TP dA Γ g) sz X H) (ha : (Γ a).1 = 15) {i : Int32} (hin : 0 ≤ i.toInt ∧ i.toInt < 53) (hdg : decode cc pc = .ok (.aaload, 1)) (kk : ∀ (j : Nat) (r : Option Nat), (j : Int) = i.toInt → (∀ b, r = some b → (Γ b).1 = 4) → W p l e R s m args below meth c H locs cells slots Q (F0 m (pc + 1) ls (va_rf r :: rest))) : W p l e R s m args below meth c H locs cells slots Q (F0 m pc ls (.int i :: .ref a :: rest)) :=
  ty_aald (cA := dA 6) (C := RX2) (n := 53) (P := aR Γ 4 53 (0)) hx hb hE.1 hG (by rw [ha]; decide) (fun x h => by rw [TP_15 ha] at h; exact h) 6 rfl hin hdg (fun j f hj hjn hf => kk j (f j) hj (hf j hjn).1)
theorem ast_15 (hx : p.tables.exec = Jvm.exec) (hb : c.code = cc) (hE : en dC dI dA sz s) (hG : ty_ok (dC, dI) vwCl Γ (TP dA Γ g) sz X H) (hS0 : va_S (ty_A sz) H0 H locs) (ha : (Γ a).1 = 15) {r : Option Nat} (hr : ∀ b, r = some b → (Γ b).1 = 4) {i : Int32} (hin : 0 ≤ i.toInt ∧ i.toInt < 53) (hdg : decode cc pc = .ok (.aastore, 1)) (kk : ∀ (H1 : Heap) (locs1 : List Loc), ty_ok (dC, dI) vwCl Γ (TP dA Γ g) sz X H1 → va_S (ty_A sz) H0 H1 locs1 → W p l e R s m args below meth c H1 locs1 cells slots Q (F0 m (pc + 1) ls rest)) : W p l e R s m args below meth c H locs cells slots Q (F0 m pc ls (va_rf r :: .int i :: .ref a :: rest)) := by
  have key : ∀ (j : Nat) (f : Nat → Option Nat), aR Γ 4 53 0 f → aR Γ 4 53 0 (va_up f j r) := fun j f hf j' hj' => by
    by_cases e : j' = j
    · subst e; rw [va_up_self]; exact ⟨hr, fun h => absurd h (by omega)⟩
    · rw [va_up_ne _ _ e]; exact hf j' hj'
  cases r with
  | none => exact ty_aastN (T' := TP dA Γ g) (cA := dA 6) (C := RX2) (n := 53) (P := aR Γ 4 53 0) (P' := aR Γ 4 53 0) hx hb hE.1 hG hS0 (by rw [ha]; decide) (fun x h => by rw [TP_15 ha] at h; exact h) (fun x h => by rw [TP_15 ha]; exact h) 6 rfl hin (fun j f _ _ hf => key j f hf) (fun _ _ _ _ h => h) hdg kk
  | some v =>
    have hv := hr v rfl
    obtain ⟨-, y, h2, h3⟩ := hG.2.1 v (by rw [hv]; decide)
    rw [TP_4 hv] at h3
    obtain ⟨vs, rfl, -⟩ := h3
    exact ty_aastS (T' := TP dA Γ g) (cA := dA 6) (r := vwCl[2]) (n := 53) (P := aR Γ 4 53 0) (P' := aR Γ 4 53 0) hx hb hE.1 hG hS0 (by rw [ha]; decide) (fun x h => by rw [TP_15 ha] at h; exact h) (fun x h => by rw [TP_15 ha]; exact h) 6 rfl h2 rfl hin (fun j f _ _ hf => key j f hf) (fun _ _ _ _ h => h) hdg (fun H1 locs1 q1 q2 _ => kk H1 locs1 q1 q2)
theorem ald_19 (hx : p.tables.exec = Jvm.exec) (hb : c.code = cc) (hE : en dC dI dA sz s) (hG : ty_ok (dC, dI) vwCl Γ (TP dA Γ g) sz X H) (ha : (Γ a).1 = 19) {i : Int32} (hin : 0 ≤ i.toInt ∧ i.toInt < 9) (hdg : decode cc pc = .ok (.aaload, 1)) (kk : ∀ (j : Nat) (r : Option Nat), (j : Int) = i.toInt → (∀ b, r = some b → (Γ b).1 = 4) → ((j : Int) < g 36 0 → r ≠ none) → W p l e R s m args below meth c H locs cells slots Q (F0 m (pc + 1) ls (va_rf r :: rest))) : W p l e R s m args below meth c H locs cells slots Q (F0 m pc ls (.int i :: .ref a :: rest)) :=
  ty_aald (cA := dA 6) (C := RX2) (n := 9) (P := aR Γ 4 9 (g 36 0)) hx hb hE.1 hG (by rw [ha]; decide) (fun x h => by rw [TP_19 ha] at h; exact h) 6 rfl hin hdg (fun j f hj hjn hf => kk j (f j) hj (hf j hjn).1 (hf j hjn).2)
/-- a place of a row that is filled from below, again and again -/
theorem ast_19 (hx : p.tables.exec = Jvm.exec) (hb : c.code = cc) (hE : en dC dI dA sz s) (hG : ty_ok (dC, dI) vwCl Γ (TP dA Γ g) sz X H) (hS0 : va_S (ty_A sz) H0 H locs) (hU : Un Γ) (ha : (Γ a).1 = 19) {v : Nat} (hv : (Γ v).1 = 4) {i : Int32} (hin : 0 ≤ i.toInt ∧ i.toInt < 9) (hi : i.toInt ≤ g 36 0) (hdg : decode cc pc = .ok (.aastore, 1)) (kk : ∀ (H1 : Heap) (locs1 : List Loc), ty_ok (dC, dI) vwCl Γ (TP dA Γ (gs g 36 0 (max (g 36 0) (i.toInt + 1)))) sz X H1 → va_S (ty_A sz) H0 H1 locs1 → W p l e R s m args below meth c H1 locs1 cells slots Q (F0 m (pc + 1) ls rest)) : W p l e R s m args below meth c H locs cells slots Q (F0 m pc ls (.ref v :: .int i :: .ref a :: rest)) := by
  obtain ⟨-, y, h2, h3⟩ := hG.2.1 v (by rw [hv]; decide)
  rw [TP_4 hv] at h3
  obtain ⟨vs, rfl, -⟩ := h3
  refine ty_aastS (T' := TP dA Γ (gs g 36 0 (max (g 36 0) (i.toInt + 1)))) (cA := dA 6) (r := vwCl[2]) (n := 9) (P := aR Γ 4 9 (g 36 0)) (P' := aR Γ 4 9 (max (g 36 0) (i.toInt + 1))) hx hb hE.1 hG hS0 (by rw [ha]; decide) (fun x h => by rw [TP_19 ha] at h; exact h) (fun x h => by rw [TP_19 ha, gs_self]; exact h) 6 rfl h2 rfl hin (fun j f hj hjn hf j' hj' => ?_) (fun b y hb h0 h => TP_gs (by show ((Γ b).1 == 19) = false; exact beq_eq_false_iff_ne.mpr (hU.one ha rfl hb)) h) hdg (fun H1 locs1 q1 q2 _ => kk H1 locs1 q1 q2)
  by_cases e : j' = j
  · subst e; rw [va_up_self]; exact ⟨fun b hb => by cases hb; exact hv, fun _ h => by cases h⟩
  · rw [va_up_ne _ _ e]; exact ⟨(hf j' hj').1, fun h => (hf j' hj').2 (by omega)⟩
end ROWS2
