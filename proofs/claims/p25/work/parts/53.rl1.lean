/-! ===== what the two sides hold in common ===== -/
def RC (g : gh) : Prop := g 101 0 = g 1 0 ∧ g 104 0 = g 2 0 ∧ g 126 0 = g 3 0 ∧ g 111 0 = g 4 0 ∧ g 112 0 = g 5 0 ∧ g 114 0 = g 6 0 ∧ g 121 0 = g 14 0 ∧ g 118 0 = g 18 0 ∧ g 1 0 = g 33 0 ∧ g 2 0 = g 34 0 ∧ g 3 0 = g 35 0 ∧ 0 ≤ g 1 0 ∧ g 1 0 ≤ 6 ∧ 0 ≤ g 2 0 ∧ g 2 0 ≤ 10 ∧ 0 ≤ g 3 0 ∧ g 3 0 ≤ 200 ∧ 0 ≤ g 5 0 ∧ g 5 0 ≤ 52 ∧ 0 ≤ g 4 0 ∧ 0 ≤ g 6 0 ∧ g 6 0 ≤ 300 ∧ 0 ≤ g 122 0 ∧ g 122 0 ≤ 30
def RO (g : gh) : Prop := g 50 = g 105 ∧ g 51 = g 106 ∧ g 52 = g 107 ∧ g 54 = g 108 ∧ (∀ n, (g 2 0).toNat ≤ n → g 51 n = 0 ∧ g 52 n = 0 ∧ g 54 n = 0 ∧ g 56 n = -1) ∧ (∀ n, g 54 n ≠ 0 → g 56 n < 0)
def RF (g : gh) : Prop := g 41 = g 102 ∧ g 42 = g 103 ∧ g 43 = g 109 ∧ g 44 = g 110 ∧ (∀ j, 53 * (g 1 0).toNat ≤ j → (j < 318 → g 43 j = -1) ∧ g 44 j = 0) ∧ (∀ f, f < (g 1 0).toNat → 1 ≤ g 42 f ∧ g 42 f ≤ 4) ∧ (∀ j, j < 318 → -1 ≤ g 43 j ∧ g 43 j < g 2 0) ∧ OW (g 43) (g 53)
def RG (g : gh) : Prop := g 60 = g 127 ∧ g 61 = g 128 ∧ g 62 = g 129 ∧ g 63 = g 130 ∧ g 64 = g 131 ∧ g 65 = g 132 ∧ g 67 = g 133 ∧ g 68 = g 134 ∧ (∀ k, k < (g 3 0).toNat → 0 ≤ g 60 k ∧ g 60 k < g 2 0 ∧ 0 ≤ g 61 k ∧ g 61 k < g 1 0 ∧ 0 ≤ g 62 k ∧ g 62 k ≤ 52 ∧ g 63 k ≤ g 4 0 ∧ 0 ≤ g 64 k ∧ g 64 k ≤ 29997 ∧ g 68 k < g 2 0)
def RT (g : gh) : Prop := ∀ f w : Nat, f < (g 1 0).toNat → w < 53 → g 45 (53 * f + w) = ga_f (g 61) (g 62) (g 63) (f : Int) (w : Int) (g 4 0) (g 3 0).toNat
def RW (g : gh) : Prop := (∀ k, k < (g 3 0).toNat → WR (g 66 k) (g 135) k) ∧ (∀ o, o < 10 → WR (g 56 o) (g 135) (200 + o))
def RRg (r : Nat → Int) : Prop := (∀ j, 0 ≤ r j ∧ r j ≤ 9999) ∧ ∀ k, r (4 * k) = 2 → r (4 * k + 1) ≤ 52
def RR (g : gh) : Prop := (g 13 0 = 0 ∨ g 13 0 = 1) ∧ g 12 0 = 1 - g 13 0 ∧ BLK (64 * (g 13 0).toNat) (g 80) (g 81) (g 82) (g 11 (g 13 0).toNat) (g 123) (g 122 0).toNat ∧ RRg (g 123) ∧ RRg (g 125)
def RS (g : gh) : Prop := g 86 0 = 0 ∧ (fun j => g 113 j % 256) = g 19
def RLA (g : gh) : Prop := RC g ∧ RO g ∧ RF g ∧ RG g ∧ RT g ∧ RW g ∧ RR g ∧ RS g

theorem RC_cg {g u : gh} (h : RC g) (e : ∀ c, c ∈ [1, 2, 3, 4, 5, 6, 14, 18, 33, 34, 35, 101, 104, 111, 112, 114, 118, 121, 122, 126] → u c = g c) : RC u := by
  unfold RC at h ⊢
  rw [e 1 (by decide), e 2 (by decide), e 3 (by decide), e 4 (by decide), e 5 (by decide), e 6 (by decide), e 14 (by decide), e 18 (by decide), e 33 (by decide), e 34 (by decide), e 35 (by decide), e 101 (by decide), e 104 (by decide), e 111 (by decide), e 112 (by decide), e 114 (by decide), e 118 (by decide), e 121 (by decide), e 122 (by decide), e 126 (by decide)]
  exact h
theorem RO_cg {g u : gh} (h : RO g) (e : ∀ c, c ∈ [2, 50, 51, 52, 54, 56, 105, 106, 107, 108] → u c = g c) : RO u := by
  unfold RO at h ⊢
  rw [e 2 (by decide), e 50 (by decide), e 51 (by decide), e 52 (by decide), e 54 (by decide), e 56 (by decide), e 105 (by decide), e 106 (by decide), e 107 (by decide), e 108 (by decide)]
  exact h
theorem RF_cg {g u : gh} (h : RF g) (e : ∀ c, c ∈ [1, 2, 41, 42, 43, 44, 53, 102, 103, 109, 110] → u c = g c) : RF u := by
  unfold RF at h ⊢
  rw [e 1 (by decide), e 2 (by decide), e 41 (by decide), e 42 (by decide), e 43 (by decide), e 44 (by decide), e 53 (by decide), e 102 (by decide), e 103 (by decide), e 109 (by decide), e 110 (by decide)]
  exact h
theorem RG_cg {g u : gh} (h : RG g) (e : ∀ c, c ∈ [1, 2, 3, 4, 60, 61, 62, 63, 64, 65, 67, 68, 127, 128, 129, 130, 131, 132, 133, 134] → u c = g c) : RG u := by
  unfold RG at h ⊢
  rw [e 1 (by decide), e 2 (by decide), e 3 (by decide), e 4 (by decide), e 60 (by decide), e 61 (by decide), e 62 (by decide), e 63 (by decide), e 64 (by decide), e 65 (by decide), e 67 (by decide), e 68 (by decide), e 127 (by decide), e 128 (by decide), e 129 (by decide), e 130 (by decide), e 131 (by decide), e 132 (by decide), e 133 (by decide), e 134 (by decide)]
  exact h
theorem RT_cg {g u : gh} (h : RT g) (e : ∀ c, c ∈ [1, 3, 4, 45, 61, 62, 63] → u c = g c) : RT u := by
  unfold RT at h ⊢
  rw [e 1 (by decide), e 3 (by decide), e 4 (by decide), e 45 (by decide), e 61 (by decide), e 62 (by decide), e 63 (by decide)]
  exact h
theorem RW_cg {g u : gh} (h : RW g) (e : ∀ c, c ∈ [3, 56, 66, 135] → u c = g c) : RW u := by
  unfold RW at h ⊢
  rw [e 3 (by decide), e 56 (by decide), e 66 (by decide), e 135 (by decide)]
  exact h
theorem RR_cg {g u : gh} (h : RR g) (e : ∀ c, c ∈ [11, 12, 13, 80, 81, 82, 122, 123, 125] → u c = g c) : RR u := by
  unfold RR at h ⊢
  rw [e 11 (by decide), e 12 (by decide), e 13 (by decide), e 80 (by decide), e 81 (by decide), e 82 (by decide), e 122 (by decide), e 123 (by decide), e 125 (by decide)]
  exact h
theorem RS_cg {g u : gh} (h : RS g) (e : ∀ c, c ∈ [19, 86, 113] → u c = g c) : RS u := by
  unfold RS at h ⊢
  rw [e 19 (by decide), e 86 (by decide), e 113 (by decide)]
  exact h

theorem tk_in {oc gc o k : Int} {de pt st wo : Nat → Int} (h : tk_c oc gc de pt st wo o k = 0) : 0 ≤ o ∧ o < oc := by
  unfold tk_c at h
  by_cases c : 0 ≤ o ∧ o < oc
  · exact c
  · rw [if_pos (fun q => c ⟨q.1, q.2.1⟩)] at h; omega

theorem st_bank {g u1 u2 : gh} {r1 r2 p1 : Int32} (h : RLA g) (f1 : ∀ c, c ∉ ([51, 65] : List Nat) → u1 c = g c) (f2 : ∀ c, c ∉ ([100, 106, 132] : List Nat) → u2 c = u1 c)
    (c0 : ((0 ≤ p1.toInt ∧ p1.toInt < g 3 0 ∧ g 65 p1.toInt.toNat = 0) → r1.toInt = (wa (g 51 (g 60 p1.toInt.toNat).toNat) (g 64 p1.toInt.toNat)) ∧ u1 65 = pz_up (g 65) p1.toInt.toNat 2 ∧ u1 51 = pz_up (g 51) (g 60 p1.toInt.toNat).toNat (wa (g 51 (g 60 p1.toInt.toNat).toNat) (g 64 p1.toInt.toNat))) ∧ (¬ ((0 ≤ p1.toInt ∧ p1.toInt < g 3 0 ∧ g 65 p1.toInt.toNat = 0)) → r1.toInt = -1 ∧ u1 65 = g 65 ∧ u1 51 = g 51))
    (m0 : ((0 ≤ p1.toInt ∧ p1.toInt < u1 126 0 ∧ u1 132 p1.toInt.toNat = 0) → r2.toInt = (wa (u1 106 (u1 127 p1.toInt.toNat).toNat) (u1 131 p1.toInt.toNat)) ∧ u2 132 = pz_up (u1 132) p1.toInt.toNat 2 ∧ u2 106 = pz_up (u1 106) (u1 127 p1.toInt.toNat).toNat (wa (u1 106 (u1 127 p1.toInt.toNat).toNat) (u1 131 p1.toInt.toNat))) ∧ (¬ ((0 ≤ p1.toInt ∧ p1.toInt < u1 126 0 ∧ u1 132 p1.toInt.toNat = 0)) → r2.toInt = -1 ∧ u2 132 = u1 132 ∧ u2 106 = u1 106)) : RLA u2 ∧ r1.toInt = r2.toInt := by
  obtain ⟨hC, hO, hF, hG, hT, hW, hR, hS⟩ := h
  have F : ∀ c, c ∉ ([51, 65, 100, 106, 132] : List Nat) → u2 c = g c := fun c hc => by rw [f2 c (fun q => hc ((show ∀ c, c ∈ ([100, 106, 132] : List Nat) → c ∈ ([51, 65, 100, 106, 132] : List Nat) by decide) c q)), f1 c (fun q => hc ((show ∀ c, c ∈ ([51, 65] : List Nat) → c ∈ ([51, 65, 100, 106, 132] : List Nat) by decide) c q))]
  have ⟨C1, C2, C3, C4, C5, C6, C14, C18, C33, C34, C35, C1a, C1b, C2a, C2b, C3a, C3b, C5a, C5b, C4a, C6a, C6b, C22a, C22b⟩ := hC
  have ⟨e50, e51, e52, e54, O5, O6⟩ := hO
  have ⟨e41, e42, e43, e44, F5, F6, F7, F8⟩ := hF
  have ⟨e60, e61, e62, e63, e64, e65, e67, e68, G9⟩ := hG
  rw [f1 126 (by decide), f1 132 (by decide), f1 106 (by decide), f1 127 (by decide), f1 131 (by decide), ← e65, ← e51, ← e60, ← e64, C3] at m0
  have k51 : u2 51 = u1 51 := f2 51 (by decide)
  have k65 : u2 65 = u1 65 := f2 65 (by decide)
  have k1 : u2 1 = g 1 := F 1 (by decide)
  have k2 : u2 2 = g 2 := F 2 (by decide)
  have k3 : u2 3 = g 3 := F 3 (by decide)
  have k4 : u2 4 = g 4 := F 4 (by decide)
  have k5 : u2 5 = g 5 := F 5 (by decide)
  have k6 : u2 6 = g 6 := F 6 (by decide)
  have k11 : u2 11 = g 11 := F 11 (by decide)
  have k12 : u2 12 = g 12 := F 12 (by decide)
  have k13 : u2 13 = g 13 := F 13 (by decide)
  have k14 : u2 14 = g 14 := F 14 (by decide)
  have k18 : u2 18 = g 18 := F 18 (by decide)
  have k19 : u2 19 = g 19 := F 19 (by decide)
  have k33 : u2 33 = g 33 := F 33 (by decide)
  have k34 : u2 34 = g 34 := F 34 (by decide)
  have k35 : u2 35 = g 35 := F 35 (by decide)
  have k41 : u2 41 = g 41 := F 41 (by decide)
  have k42 : u2 42 = g 42 := F 42 (by decide)
  have k43 : u2 43 = g 43 := F 43 (by decide)
  have k44 : u2 44 = g 44 := F 44 (by decide)
  have k45 : u2 45 = g 45 := F 45 (by decide)
  have k50 : u2 50 = g 50 := F 50 (by decide)
  have k52 : u2 52 = g 52 := F 52 (by decide)
  have k53 : u2 53 = g 53 := F 53 (by decide)
  have k54 : u2 54 = g 54 := F 54 (by decide)
  have k56 : u2 56 = g 56 := F 56 (by decide)
  have k60 : u2 60 = g 60 := F 60 (by decide)
  have k61 : u2 61 = g 61 := F 61 (by decide)
  have k62 : u2 62 = g 62 := F 62 (by decide)
  have k63 : u2 63 = g 63 := F 63 (by decide)
  have k64 : u2 64 = g 64 := F 64 (by decide)
  have k66 : u2 66 = g 66 := F 66 (by decide)
  have k67 : u2 67 = g 67 := F 67 (by decide)
  have k68 : u2 68 = g 68 := F 68 (by decide)
  have k80 : u2 80 = g 80 := F 80 (by decide)
  have k81 : u2 81 = g 81 := F 81 (by decide)
  have k82 : u2 82 = g 82 := F 82 (by decide)
  have k86 : u2 86 = g 86 := F 86 (by decide)
  have k101 : u2 101 = g 101 := F 101 (by decide)
  have k102 : u2 102 = g 102 := F 102 (by decide)
  have k103 : u2 103 = g 103 := F 103 (by decide)
  have k104 : u2 104 = g 104 := F 104 (by decide)
  have k105 : u2 105 = g 105 := F 105 (by decide)
  have k107 : u2 107 = g 107 := F 107 (by decide)
  have k108 : u2 108 = g 108 := F 108 (by decide)
  have k109 : u2 109 = g 109 := F 109 (by decide)
  have k110 : u2 110 = g 110 := F 110 (by decide)
  have k111 : u2 111 = g 111 := F 111 (by decide)
  have k112 : u2 112 = g 112 := F 112 (by decide)
  have k113 : u2 113 = g 113 := F 113 (by decide)
  have k114 : u2 114 = g 114 := F 114 (by decide)
  have k118 : u2 118 = g 118 := F 118 (by decide)
  have k121 : u2 121 = g 121 := F 121 (by decide)
  have k122 : u2 122 = g 122 := F 122 (by decide)
  have k123 : u2 123 = g 123 := F 123 (by decide)
  have k125 : u2 125 = g 125 := F 125 (by decide)
  have k126 : u2 126 = g 126 := F 126 (by decide)
  have k127 : u2 127 = g 127 := F 127 (by decide)
  have k128 : u2 128 = g 128 := F 128 (by decide)
  have k129 : u2 129 = g 129 := F 129 (by decide)
  have k130 : u2 130 = g 130 := F 130 (by decide)
  have k131 : u2 131 = g 131 := F 131 (by decide)
  have k133 : u2 133 = g 133 := F 133 (by decide)
  have k134 : u2 134 = g 134 := F 134 (by decide)
  have k135 : u2 135 = g 135 := F 135 (by decide)
  have key : u2 65 = u2 132 ∧ u2 51 = u2 106 ∧ r1.toInt = r2.toInt ∧ (∀ n, (g 2 0).toNat ≤ n → u2 51 n = 0) := by
    by_cases A : 0 ≤ p1.toInt ∧ p1.toInt < g 3 0 ∧ g 65 p1.toInt.toNat = 0
    · obtain ⟨a1, a2, a3⟩ := c0.1 A
      obtain ⟨b1, b2, b3⟩ := m0.1 A
      refine ⟨by rw [k65, a2, b2], by rw [k51, a3, b3], by rw [a1, b1], fun n hn => ?_⟩
      have := G9 p1.toInt.toNat (by omega)
      rw [k51, a3, pz_up_n (by omega)]; exact (O5 n hn).1
    · obtain ⟨a1, a2, a3⟩ := c0.2 A
      obtain ⟨b1, b2, b3⟩ := m0.2 A
      exact ⟨by rw [k65, a2, b2], by rw [k51, a3, b3], by rw [a1, b1], fun n hn => by rw [k51, a3]; exact (O5 n hn).1⟩
  refine ⟨⟨?_, ?_, ?_, ?_, ?_, ?_, ?_, ?_⟩, ?_⟩
  · exact RC_cg hC (fun c hc => F c ((show ∀ c, c ∈ ([1, 2, 3, 4, 5, 6, 14, 18, 33, 34, 35, 101, 104, 111, 112, 114, 118, 121, 122, 126] : List Nat) → c ∉ ([51, 65, 100, 106, 132] : List Nat) by decide) c hc))
  · exact ⟨by rw [k50, k105]; exact e50, key.2.1, by rw [k52, k107]; exact e52, by rw [k54, k108]; exact e54, fun n hn => by rw [k2] at hn; exact ⟨key.2.2.2 n hn, by rw [k52, k54, k56]; exact (O5 n hn).2⟩, by rw [k54, k56]; exact O6⟩
  · exact RF_cg hF (fun c hc => F c ((show ∀ c, c ∈ ([1, 2, 41, 42, 43, 44, 53, 102, 103, 109, 110] : List Nat) → c ∉ ([51, 65, 100, 106, 132] : List Nat) by decide) c hc))
  · exact ⟨by rw [k60, k127]; exact e60, by rw [k61, k128]; exact e61, by rw [k62, k129]; exact e62, by rw [k63, k130]; exact e63, by rw [k64, k131]; exact e64, key.1, by rw [k67, k133]; exact e67, by rw [k68, k134]; exact e68, by rw [k1, k2, k3, k4, k60, k61, k62, k63, k64, k68]; exact G9⟩
  · exact RT_cg hT (fun c hc => F c ((show ∀ c, c ∈ ([1, 3, 4, 45, 61, 62, 63] : List Nat) → c ∉ ([51, 65, 100, 106, 132] : List Nat) by decide) c hc))
  · exact RW_cg hW (fun c hc => F c ((show ∀ c, c ∈ ([3, 56, 66, 135] : List Nat) → c ∉ ([51, 65, 100, 106, 132] : List Nat) by decide) c hc))
  · exact RR_cg hR (fun c hc => F c ((show ∀ c, c ∈ ([11, 12, 13, 80, 81, 82, 122, 123, 125] : List Nat) → c ∉ ([51, 65, 100, 106, 132] : List Nat) by decide) c hc))
  · exact RS_cg hS (fun c hc => F c ((show ∀ c, c ∈ ([19, 86, 113] : List Nat) → c ∉ ([51, 65, 100, 106, 132] : List Nat) by decide) c hc))
  · exact key.2.2.1

theorem st_take {g u1 u2 : gh} {r1 r2 p1 p2 : Int32} (h : RLA g) (f1 : ∀ c, c ∉ ([51, 65, 68] : List Nat) → u1 c = g c) (f2 : ∀ c, c ∉ ([100, 106, 132, 134] : List Nat) → u2 c = u1 c)
    (c0 : (tk_c (g 2 0) (g 3 0) (g 54) (g 51) (g 65) (g 64) p1.toInt p2.toInt = 0 → r1.toInt = (ws (g 51 p1.toInt.toNat) (g 64 p2.toInt.toNat)) ∧ u1 65 = pz_up (g 65) p2.toInt.toNat 3 ∧ u1 68 = pz_up (g 68) p2.toInt.toNat p1.toInt ∧ u1 51 = pz_up (g 51) p1.toInt.toNat (ws (g 51 p1.toInt.toNat) (g 64 p2.toInt.toNat))) ∧ (tk_c (g 2 0) (g 3 0) (g 54) (g 51) (g 65) (g 64) p1.toInt p2.toInt ≠ 0 → r1.toInt = tk_c (g 2 0) (g 3 0) (g 54) (g 51) (g 65) (g 64) p1.toInt p2.toInt ∧ u1 65 = g 65 ∧ u1 68 = g 68 ∧ u1 51 = g 51))
    (m0 : (tk_c (u1 104 0) (u1 126 0) (u1 108) (u1 106) (u1 132) (u1 131) p1.toInt p2.toInt = 0 → r2.toInt = (ws (u1 106 p1.toInt.toNat) (u1 131 p2.toInt.toNat)) ∧ u2 132 = pz_up (u1 132) p2.toInt.toNat 3 ∧ u2 134 = pz_up (u1 134) p2.toInt.toNat p1.toInt ∧ u2 106 = pz_up (u1 106) p1.toInt.toNat (ws (u1 106 p1.toInt.toNat) (u1 131 p2.toInt.toNat))) ∧ (tk_c (u1 104 0) (u1 126 0) (u1 108) (u1 106) (u1 132) (u1 131) p1.toInt p2.toInt ≠ 0 → r2.toInt = tk_c (u1 104 0) (u1 126 0) (u1 108) (u1 106) (u1 132) (u1 131) p1.toInt p2.toInt ∧ u2 132 = u1 132 ∧ u2 134 = u1 134 ∧ u2 106 = u1 106)) : RLA u2 ∧ r1.toInt = r2.toInt := by
  obtain ⟨hC, hO, hF, hG, hT, hW, hR, hS⟩ := h
  have F : ∀ c, c ∉ ([51, 65, 68, 100, 106, 132, 134] : List Nat) → u2 c = g c := fun c hc => by rw [f2 c (fun q => hc ((show ∀ c, c ∈ ([100, 106, 132, 134] : List Nat) → c ∈ ([51, 65, 68, 100, 106, 132, 134] : List Nat) by decide) c q)), f1 c (fun q => hc ((show ∀ c, c ∈ ([51, 65, 68] : List Nat) → c ∈ ([51, 65, 68, 100, 106, 132, 134] : List Nat) by decide) c q))]
  have ⟨C1, C2, C3, C4, C5, C6, C14, C18, C33, C34, C35, C1a, C1b, C2a, C2b, C3a, C3b, C5a, C5b, C4a, C6a, C6b, C22a, C22b⟩ := hC
  have ⟨e50, e51, e52, e54, O5, O6⟩ := hO
  have ⟨e41, e42, e43, e44, F5, F6, F7, F8⟩ := hF
  have ⟨e60, e61, e62, e63, e64, e65, e67, e68, G9⟩ := hG
  rw [f1 104 (by decide), f1 126 (by decide), f1 108 (by decide), f1 106 (by decide), f1 132 (by decide), f1 131 (by decide), f1 134 (by decide), ← e54, ← e51, ← e65, ← e64, ← e68, C2, C3] at m0
  have k51 : u2 51 = u1 51 := f2 51 (by decide)
  have k65 : u2 65 = u1 65 := f2 65 (by decide)
  have k68 : u2 68 = u1 68 := f2 68 (by decide)
  have k1 : u2 1 = g 1 := F 1 (by decide)
  have k2 : u2 2 = g 2 := F 2 (by decide)
  have k3 : u2 3 = g 3 := F 3 (by decide)
  have k4 : u2 4 = g 4 := F 4 (by decide)
  have k5 : u2 5 = g 5 := F 5 (by decide)
  have k6 : u2 6 = g 6 := F 6 (by decide)
  have k11 : u2 11 = g 11 := F 11 (by decide)
  have k12 : u2 12 = g 12 := F 12 (by decide)
  have k13 : u2 13 = g 13 := F 13 (by decide)
  have k14 : u2 14 = g 14 := F 14 (by decide)
  have k18 : u2 18 = g 18 := F 18 (by decide)
  have k19 : u2 19 = g 19 := F 19 (by decide)
  have k33 : u2 33 = g 33 := F 33 (by decide)
  have k34 : u2 34 = g 34 := F 34 (by decide)
  have k35 : u2 35 = g 35 := F 35 (by decide)
  have k41 : u2 41 = g 41 := F 41 (by decide)
  have k42 : u2 42 = g 42 := F 42 (by decide)
  have k43 : u2 43 = g 43 := F 43 (by decide)
  have k44 : u2 44 = g 44 := F 44 (by decide)
  have k45 : u2 45 = g 45 := F 45 (by decide)
  have k50 : u2 50 = g 50 := F 50 (by decide)
  have k52 : u2 52 = g 52 := F 52 (by decide)
  have k53 : u2 53 = g 53 := F 53 (by decide)
  have k54 : u2 54 = g 54 := F 54 (by decide)
  have k56 : u2 56 = g 56 := F 56 (by decide)
  have k60 : u2 60 = g 60 := F 60 (by decide)
  have k61 : u2 61 = g 61 := F 61 (by decide)
  have k62 : u2 62 = g 62 := F 62 (by decide)
  have k63 : u2 63 = g 63 := F 63 (by decide)
  have k64 : u2 64 = g 64 := F 64 (by decide)
  have k66 : u2 66 = g 66 := F 66 (by decide)
  have k67 : u2 67 = g 67 := F 67 (by decide)
  have k80 : u2 80 = g 80 := F 80 (by decide)
  have k81 : u2 81 = g 81 := F 81 (by decide)
  have k82 : u2 82 = g 82 := F 82 (by decide)
  have k86 : u2 86 = g 86 := F 86 (by decide)
  have k101 : u2 101 = g 101 := F 101 (by decide)
  have k102 : u2 102 = g 102 := F 102 (by decide)
  have k103 : u2 103 = g 103 := F 103 (by decide)
  have k104 : u2 104 = g 104 := F 104 (by decide)
  have k105 : u2 105 = g 105 := F 105 (by decide)
  have k107 : u2 107 = g 107 := F 107 (by decide)
  have k108 : u2 108 = g 108 := F 108 (by decide)
  have k109 : u2 109 = g 109 := F 109 (by decide)
  have k110 : u2 110 = g 110 := F 110 (by decide)
  have k111 : u2 111 = g 111 := F 111 (by decide)
  have k112 : u2 112 = g 112 := F 112 (by decide)
  have k113 : u2 113 = g 113 := F 113 (by decide)
  have k114 : u2 114 = g 114 := F 114 (by decide)
  have k118 : u2 118 = g 118 := F 118 (by decide)
  have k121 : u2 121 = g 121 := F 121 (by decide)
  have k122 : u2 122 = g 122 := F 122 (by decide)
  have k123 : u2 123 = g 123 := F 123 (by decide)
  have k125 : u2 125 = g 125 := F 125 (by decide)
  have k126 : u2 126 = g 126 := F 126 (by decide)
  have k127 : u2 127 = g 127 := F 127 (by decide)
  have k128 : u2 128 = g 128 := F 128 (by decide)
  have k129 : u2 129 = g 129 := F 129 (by decide)
  have k130 : u2 130 = g 130 := F 130 (by decide)
  have k131 : u2 131 = g 131 := F 131 (by decide)
  have k133 : u2 133 = g 133 := F 133 (by decide)
  have k135 : u2 135 = g 135 := F 135 (by decide)
  have key : u2 65 = u2 132 ∧ u2 68 = u2 134 ∧ u2 51 = u2 106 ∧ r1.toInt = r2.toInt ∧ (∀ n, (g 2 0).toNat ≤ n → u2 51 n = 0) ∧ (∀ k, k < (g 3 0).toNat → u2 68 k < g 2 0) := by
    by_cases A : tk_c (g 2 0) (g 3 0) (g 54) (g 51) (g 65) (g 64) p1.toInt p2.toInt = 0
    · obtain ⟨a1, a2, a3, a4⟩ := c0.1 A
      obtain ⟨b1, b2, b3, b4⟩ := m0.1 A
      have i := tk_in A
      exact ⟨by rw [k65, a2, b2], by rw [k68, a3, b3], by rw [k51, a4, b4], by rw [a1, b1], fun n hn => by rw [k51, a4, pz_up_n (by omega)]; exact (O5 n hn).1, fun k hk => by rw [k68, a3]; have := G9 k hk; unfold pz_up; split <;> omega⟩
    · obtain ⟨a1, a2, a3, a4⟩ := c0.2 A
      obtain ⟨b1, b2, b3, b4⟩ := m0.2 A
      exact ⟨by rw [k65, a2, b2], by rw [k68, a3, b3], by rw [k51, a4, b4], by rw [a1, b1], fun n hn => by rw [k51, a4]; exact (O5 n hn).1, fun k hk => by rw [k68, a3]; have := G9 k hk; omega⟩
  refine ⟨⟨?_, ?_, ?_, ?_, ?_, ?_, ?_, ?_⟩, ?_⟩
  · exact RC_cg hC (fun c hc => F c ((show ∀ c, c ∈ ([1, 2, 3, 4, 5, 6, 14, 18, 33, 34, 35, 101, 104, 111, 112, 114, 118, 121, 122, 126] : List Nat) → c ∉ ([51, 65, 68, 100, 106, 132, 134] : List Nat) by decide) c hc))
  · exact ⟨by rw [k50, k105]; exact e50, key.2.2.1, by rw [k52, k107]; exact e52, by rw [k54, k108]; exact e54, fun n hn => by rw [k2] at hn; exact ⟨key.2.2.2.2.1 n hn, by rw [k52, k54, k56]; exact (O5 n hn).2⟩, by rw [k54, k56]; exact O6⟩
  · exact RF_cg hF (fun c hc => F c ((show ∀ c, c ∈ ([1, 2, 41, 42, 43, 44, 53, 102, 103, 109, 110] : List Nat) → c ∉ ([51, 65, 68, 100, 106, 132, 134] : List Nat) by decide) c hc))
  · exact ⟨by rw [k60, k127]; exact e60, by rw [k61, k128]; exact e61, by rw [k62, k129]; exact e62, by rw [k63, k130]; exact e63, by rw [k64, k131]; exact e64, key.1, by rw [k67, k133]; exact e67, key.2.1, fun k hk => by rw [k3] at hk; have h8 := key.2.2.2.2.2 k hk; rw [k1, k2, k4, k60, k61, k62, k63, k64]; have := G9 k hk; omega⟩
  · exact RT_cg hT (fun c hc => F c ((show ∀ c, c ∈ ([1, 3, 4, 45, 61, 62, 63] : List Nat) → c ∉ ([51, 65, 68, 100, 106, 132, 134] : List Nat) by decide) c hc))
  · exact RW_cg hW (fun c hc => F c ((show ∀ c, c ∈ ([3, 56, 66, 135] : List Nat) → c ∉ ([51, 65, 68, 100, 106, 132, 134] : List Nat) by decide) c hc))
  · exact RR_cg hR (fun c hc => F c ((show ∀ c, c ∈ ([11, 12, 13, 80, 81, 82, 122, 123, 125] : List Nat) → c ∉ ([51, 65, 68, 100, 106, 132, 134] : List Nat) by decide) c hc))
  · exact RS_cg hS (fun c hc => F c ((show ∀ c, c ∈ ([19, 86, 113] : List Nat) → c ∉ ([51, 65, 68, 100, 106, 132, 134] : List Nat) by decide) c hc))
  · exact key.2.2.2.1

theorem st_weeks {g u1 u2 : gh} {r1 r2 p1 : Int32} (h : RLA g) (f1 : ∀ c, c ∉ ([5, 65] : List Nat) → u1 c = g c) (f2 : ∀ c, c ∉ ([100, 112, 132] : List Nat) → u2 c = u1 c)
    (c0 : 1 ≤ p1.toInt ∧ p1.toInt ≤ 52 - g 5 0 → r1.toInt = g 5 0 + p1.toInt ∧ u1 5 0 = r1.toInt)
    (c1 : ¬ (1 ≤ p1.toInt ∧ p1.toInt ≤ 52 - g 5 0) → r1.toInt = -1 ∧ u1 5 0 = g 5 0)
    (c2 : (1 ≤ p1.toInt ∧ p1.toInt ≤ 52 - g 5 0 → u1 65 = eu_f (g 65) (g 62) (g 5 0 + p1.toInt) (g 3 0).toNat) ∧ (¬ (1 ≤ p1.toInt ∧ p1.toInt ≤ 52 - g 5 0) → u1 65 = g 65))
    (m0 : 1 ≤ p1.toInt ∧ p1.toInt ≤ 52 - u1 112 0 → r2.toInt = u1 112 0 + p1.toInt ∧ u2 112 0 = r2.toInt)
    (m1 : ¬ (1 ≤ p1.toInt ∧ p1.toInt ≤ 52 - u1 112 0) → r2.toInt = -1 ∧ u2 112 0 = u1 112 0)
    (m2 : (1 ≤ p1.toInt ∧ p1.toInt ≤ 52 - u1 112 0 → u2 132 = eu_f (u1 132) (u1 129) (u1 112 0 + p1.toInt) (u1 126 0).toNat) ∧ (¬ (1 ≤ p1.toInt ∧ p1.toInt ≤ 52 - u1 112 0) → u2 132 = u1 132)) : RLA u2 ∧ r1.toInt = r2.toInt := by
  obtain ⟨hC, hO, hF, hG, hT, hW, hR, hS⟩ := h
  have F : ∀ c, c ∉ ([5, 65, 100, 112, 132] : List Nat) → u2 c = g c := fun c hc => by rw [f2 c (fun q => hc ((show ∀ c, c ∈ ([100, 112, 132] : List Nat) → c ∈ ([5, 65, 100, 112, 132] : List Nat) by decide) c q)), f1 c (fun q => hc ((show ∀ c, c ∈ ([5, 65] : List Nat) → c ∈ ([5, 65, 100, 112, 132] : List Nat) by decide) c q))]
  have ⟨C1, C2, C3, C4, C5, C6, C14, C18, C33, C34, C35, C1a, C1b, C2a, C2b, C3a, C3b, C5a, C5b, C4a, C6a, C6b, C22a, C22b⟩ := hC
  have ⟨e50, e51, e52, e54, O5, O6⟩ := hO
  have ⟨e41, e42, e43, e44, F5, F6, F7, F8⟩ := hF
  have ⟨e60, e61, e62, e63, e64, e65, e67, e68, G9⟩ := hG
  rw [f1 112 (by decide), C5] at m0
  rw [f1 112 (by decide), C5] at m1
  rw [f1 112 (by decide), f1 132 (by decide), f1 129 (by decide), f1 126 (by decide), ← e65, ← e62, C5, C3] at m2
  have k5 : u2 5 = u1 5 := f2 5 (by decide)
  have k65 : u2 65 = u1 65 := f2 65 (by decide)
  have k1 : u2 1 = g 1 := F 1 (by decide)
  have k2 : u2 2 = g 2 := F 2 (by decide)
  have k3 : u2 3 = g 3 := F 3 (by decide)
  have k4 : u2 4 = g 4 := F 4 (by decide)
  have k6 : u2 6 = g 6 := F 6 (by decide)
  have k11 : u2 11 = g 11 := F 11 (by decide)
  have k12 : u2 12 = g 12 := F 12 (by decide)
  have k13 : u2 13 = g 13 := F 13 (by decide)
  have k14 : u2 14 = g 14 := F 14 (by decide)
  have k18 : u2 18 = g 18 := F 18 (by decide)
  have k19 : u2 19 = g 19 := F 19 (by decide)
  have k33 : u2 33 = g 33 := F 33 (by decide)
  have k34 : u2 34 = g 34 := F 34 (by decide)
  have k35 : u2 35 = g 35 := F 35 (by decide)
  have k41 : u2 41 = g 41 := F 41 (by decide)
  have k42 : u2 42 = g 42 := F 42 (by decide)
  have k43 : u2 43 = g 43 := F 43 (by decide)
  have k44 : u2 44 = g 44 := F 44 (by decide)
  have k45 : u2 45 = g 45 := F 45 (by decide)
  have k50 : u2 50 = g 50 := F 50 (by decide)
  have k51 : u2 51 = g 51 := F 51 (by decide)
  have k52 : u2 52 = g 52 := F 52 (by decide)
  have k53 : u2 53 = g 53 := F 53 (by decide)
  have k54 : u2 54 = g 54 := F 54 (by decide)
  have k56 : u2 56 = g 56 := F 56 (by decide)
  have k60 : u2 60 = g 60 := F 60 (by decide)
  have k61 : u2 61 = g 61 := F 61 (by decide)
  have k62 : u2 62 = g 62 := F 62 (by decide)
  have k63 : u2 63 = g 63 := F 63 (by decide)
  have k64 : u2 64 = g 64 := F 64 (by decide)
  have k66 : u2 66 = g 66 := F 66 (by decide)
  have k67 : u2 67 = g 67 := F 67 (by decide)
  have k68 : u2 68 = g 68 := F 68 (by decide)
  have k80 : u2 80 = g 80 := F 80 (by decide)
  have k81 : u2 81 = g 81 := F 81 (by decide)
  have k82 : u2 82 = g 82 := F 82 (by decide)
  have k86 : u2 86 = g 86 := F 86 (by decide)
  have k101 : u2 101 = g 101 := F 101 (by decide)
  have k102 : u2 102 = g 102 := F 102 (by decide)
  have k103 : u2 103 = g 103 := F 103 (by decide)
  have k104 : u2 104 = g 104 := F 104 (by decide)
  have k105 : u2 105 = g 105 := F 105 (by decide)
  have k106 : u2 106 = g 106 := F 106 (by decide)
  have k107 : u2 107 = g 107 := F 107 (by decide)
  have k108 : u2 108 = g 108 := F 108 (by decide)
  have k109 : u2 109 = g 109 := F 109 (by decide)
  have k110 : u2 110 = g 110 := F 110 (by decide)
  have k111 : u2 111 = g 111 := F 111 (by decide)
  have k113 : u2 113 = g 113 := F 113 (by decide)
  have k114 : u2 114 = g 114 := F 114 (by decide)
  have k118 : u2 118 = g 118 := F 118 (by decide)
  have k121 : u2 121 = g 121 := F 121 (by decide)
  have k122 : u2 122 = g 122 := F 122 (by decide)
  have k123 : u2 123 = g 123 := F 123 (by decide)
  have k125 : u2 125 = g 125 := F 125 (by decide)
  have k126 : u2 126 = g 126 := F 126 (by decide)
  have k127 : u2 127 = g 127 := F 127 (by decide)
  have k128 : u2 128 = g 128 := F 128 (by decide)
  have k129 : u2 129 = g 129 := F 129 (by decide)
  have k130 : u2 130 = g 130 := F 130 (by decide)
  have k131 : u2 131 = g 131 := F 131 (by decide)
  have k133 : u2 133 = g 133 := F 133 (by decide)
  have k134 : u2 134 = g 134 := F 134 (by decide)
  have k135 : u2 135 = g 135 := F 135 (by decide)
  have key : u2 65 = u2 132 ∧ u2 112 0 = u2 5 0 ∧ 0 ≤ u2 5 0 ∧ u2 5 0 ≤ 52 ∧ r1.toInt = r2.toInt := by
    by_cases A : 1 ≤ p1.toInt ∧ p1.toInt ≤ 52 - g 5 0
    · have a1 := c0 A; have a2 := c2.1 A; have b1 := m0 A; have b2 := m2.1 A
      exact ⟨by rw [k65, a2, b2], by rw [k5]; omega, by rw [k5]; omega, by rw [k5]; omega, by omega⟩
    · have a1 := c1 A; have a2 := c2.2 A; have b1 := m1 A; have b2 := m2.2 A
      exact ⟨by rw [k65, a2, b2], by rw [k5]; omega, by rw [k5]; omega, by rw [k5]; omega, by omega⟩
  refine ⟨⟨?_, ?_, ?_, ?_, ?_, ?_, ?_, ?_⟩, ?_⟩
  · unfold RC; rw [k101, k1, k104, k2, k126, k3, k111, k4, k114, k6, k121, k14, k118, k18, k33, k34, k35, k122]; exact ⟨C1, C2, C3, C4, key.2.1, C6, C14, C18, C33, C34, C35, C1a, C1b, C2a, C2b, C3a, C3b, key.2.2.1, key.2.2.2.1, C4a, C6a, C6b, C22a, C22b⟩
  · exact RO_cg hO (fun c hc => F c ((show ∀ c, c ∈ ([2, 50, 51, 52, 54, 56, 105, 106, 107, 108] : List Nat) → c ∉ ([5, 65, 100, 112, 132] : List Nat) by decide) c hc))
  · exact RF_cg hF (fun c hc => F c ((show ∀ c, c ∈ ([1, 2, 41, 42, 43, 44, 53, 102, 103, 109, 110] : List Nat) → c ∉ ([5, 65, 100, 112, 132] : List Nat) by decide) c hc))
  · exact ⟨by rw [k60, k127]; exact e60, by rw [k61, k128]; exact e61, by rw [k62, k129]; exact e62, by rw [k63, k130]; exact e63, by rw [k64, k131]; exact e64, key.1, by rw [k67, k133]; exact e67, by rw [k68, k134]; exact e68, by rw [k1, k2, k3, k4, k60, k61, k62, k63, k64, k68]; exact G9⟩
  · exact RT_cg hT (fun c hc => F c ((show ∀ c, c ∈ ([1, 3, 4, 45, 61, 62, 63] : List Nat) → c ∉ ([5, 65, 100, 112, 132] : List Nat) by decide) c hc))
  · exact RW_cg hW (fun c hc => F c ((show ∀ c, c ∈ ([3, 56, 66, 135] : List Nat) → c ∉ ([5, 65, 100, 112, 132] : List Nat) by decide) c hc))
  · exact RR_cg hR (fun c hc => F c ((show ∀ c, c ∈ ([11, 12, 13, 80, 81, 82, 122, 123, 125] : List Nat) → c ∉ ([5, 65, 100, 112, 132] : List Nat) by decide) c hc))
  · exact RS_cg hS (fun c hc => F c ((show ∀ c, c ∈ ([19, 86, 113] : List Nat) → c ∉ ([5, 65, 100, 112, 132] : List Nat) by decide) c hc))
  · exact key.2.2.2.2

theorem st_wish {g u1 u2 : gh} {r1 r2 p1 p2 p3 p4 p5 : Int32} (h : RLA g) (f1 : ∀ c, c ∉ ([66] : List Nat) → u1 c = g c) (f2 : ∀ c, c ∉ ([100, 135] : List Nat) → u2 c = u1 c)
    (c0 : ((0 ≤ p1.toInt ∧ p1.toInt < g 3 0 ∧ g 65 p1.toInt.toNat = 0 ∧ ok_wi p2.toInt p3.toInt p4.toInt p5.toInt) → r1.toInt = 1 ∧ u1 66 = pz_up (g 66) p1.toInt.toNat (wz_c p2.toInt p3.toInt p4.toInt p5.toInt)) ∧ (¬ ((0 ≤ p1.toInt ∧ p1.toInt < g 3 0 ∧ g 65 p1.toInt.toNat = 0 ∧ ok_wi p2.toInt p3.toInt p4.toInt p5.toInt)) → r1.toInt = 0 ∧ u1 66 = g 66))
    (m0 : ((0 ≤ p1.toInt ∧ p1.toInt < u1 126 0 ∧ u1 132 p1.toInt.toNat = 0 ∧ ok_wi p2.toInt p3.toInt p4.toInt p5.toInt) → r2.toInt = 1 ∧ u2 135 = w4_f (u1 135) p1.toInt.toNat p2.toInt p3.toInt p4.toInt p5.toInt) ∧ (¬ ((0 ≤ p1.toInt ∧ p1.toInt < u1 126 0 ∧ u1 132 p1.toInt.toNat = 0 ∧ ok_wi p2.toInt p3.toInt p4.toInt p5.toInt)) → r2.toInt = 0 ∧ u2 135 = u1 135)) : RLA u2 ∧ r1.toInt = r2.toInt := by
  obtain ⟨hC, hO, hF, hG, hT, hW, hR, hS⟩ := h
  have F : ∀ c, c ∉ ([66, 100, 135] : List Nat) → u2 c = g c := fun c hc => by rw [f2 c (fun q => hc ((show ∀ c, c ∈ ([100, 135] : List Nat) → c ∈ ([66, 100, 135] : List Nat) by decide) c q)), f1 c (fun q => hc ((show ∀ c, c ∈ ([66] : List Nat) → c ∈ ([66, 100, 135] : List Nat) by decide) c q))]
  have ⟨C1, C2, C3, C4, C5, C6, C14, C18, C33, C34, C35, C1a, C1b, C2a, C2b, C3a, C3b, C5a, C5b, C4a, C6a, C6b, C22a, C22b⟩ := hC
  have ⟨e50, e51, e52, e54, O5, O6⟩ := hO
  have ⟨e41, e42, e43, e44, F5, F6, F7, F8⟩ := hF
  have ⟨e60, e61, e62, e63, e64, e65, e67, e68, G9⟩ := hG
  rw [f1 126 (by decide), f1 132 (by decide), f1 135 (by decide), ← e65, C3] at m0
  have k66 : u2 66 = u1 66 := f2 66 (by decide)
  have k1 : u2 1 = g 1 := F 1 (by decide)
  have k2 : u2 2 = g 2 := F 2 (by decide)
  have k3 : u2 3 = g 3 := F 3 (by decide)
  have k4 : u2 4 = g 4 := F 4 (by decide)
  have k5 : u2 5 = g 5 := F 5 (by decide)
  have k6 : u2 6 = g 6 := F 6 (by decide)
  have k11 : u2 11 = g 11 := F 11 (by decide)
  have k12 : u2 12 = g 12 := F 12 (by decide)
  have k13 : u2 13 = g 13 := F 13 (by decide)
  have k14 : u2 14 = g 14 := F 14 (by decide)
  have k18 : u2 18 = g 18 := F 18 (by decide)
  have k19 : u2 19 = g 19 := F 19 (by decide)
  have k33 : u2 33 = g 33 := F 33 (by decide)
  have k34 : u2 34 = g 34 := F 34 (by decide)
  have k35 : u2 35 = g 35 := F 35 (by decide)
  have k41 : u2 41 = g 41 := F 41 (by decide)
  have k42 : u2 42 = g 42 := F 42 (by decide)
  have k43 : u2 43 = g 43 := F 43 (by decide)
  have k44 : u2 44 = g 44 := F 44 (by decide)
  have k45 : u2 45 = g 45 := F 45 (by decide)
  have k50 : u2 50 = g 50 := F 50 (by decide)
  have k51 : u2 51 = g 51 := F 51 (by decide)
  have k52 : u2 52 = g 52 := F 52 (by decide)
  have k53 : u2 53 = g 53 := F 53 (by decide)
  have k54 : u2 54 = g 54 := F 54 (by decide)
  have k56 : u2 56 = g 56 := F 56 (by decide)
  have k60 : u2 60 = g 60 := F 60 (by decide)
  have k61 : u2 61 = g 61 := F 61 (by decide)
  have k62 : u2 62 = g 62 := F 62 (by decide)
  have k63 : u2 63 = g 63 := F 63 (by decide)
  have k64 : u2 64 = g 64 := F 64 (by decide)
  have k65 : u2 65 = g 65 := F 65 (by decide)
  have k67 : u2 67 = g 67 := F 67 (by decide)
  have k68 : u2 68 = g 68 := F 68 (by decide)
  have k80 : u2 80 = g 80 := F 80 (by decide)
  have k81 : u2 81 = g 81 := F 81 (by decide)
  have k82 : u2 82 = g 82 := F 82 (by decide)
  have k86 : u2 86 = g 86 := F 86 (by decide)
  have k101 : u2 101 = g 101 := F 101 (by decide)
  have k102 : u2 102 = g 102 := F 102 (by decide)
  have k103 : u2 103 = g 103 := F 103 (by decide)
  have k104 : u2 104 = g 104 := F 104 (by decide)
  have k105 : u2 105 = g 105 := F 105 (by decide)
  have k106 : u2 106 = g 106 := F 106 (by decide)
  have k107 : u2 107 = g 107 := F 107 (by decide)
  have k108 : u2 108 = g 108 := F 108 (by decide)
  have k109 : u2 109 = g 109 := F 109 (by decide)
  have k110 : u2 110 = g 110 := F 110 (by decide)
  have k111 : u2 111 = g 111 := F 111 (by decide)
  have k112 : u2 112 = g 112 := F 112 (by decide)
  have k113 : u2 113 = g 113 := F 113 (by decide)
  have k114 : u2 114 = g 114 := F 114 (by decide)
  have k118 : u2 118 = g 118 := F 118 (by decide)
  have k121 : u2 121 = g 121 := F 121 (by decide)
  have k122 : u2 122 = g 122 := F 122 (by decide)
  have k123 : u2 123 = g 123 := F 123 (by decide)
  have k125 : u2 125 = g 125 := F 125 (by decide)
  have k126 : u2 126 = g 126 := F 126 (by decide)
  have k127 : u2 127 = g 127 := F 127 (by decide)
  have k128 : u2 128 = g 128 := F 128 (by decide)
  have k129 : u2 129 = g 129 := F 129 (by decide)
  have k130 : u2 130 = g 130 := F 130 (by decide)
  have k131 : u2 131 = g 131 := F 131 (by decide)
  have k132 : u2 132 = g 132 := F 132 (by decide)
  have k133 : u2 133 = g 133 := F 133 (by decide)
  have k134 : u2 134 = g 134 := F 134 (by decide)
  have key : ((∀ k, k < (g 3 0).toNat → WR (u2 66 k) (u2 135) k) ∧ (∀ o, o < 10 → WR (g 56 o) (u2 135) (200 + o))) ∧ r1.toInt = r2.toInt := by
    by_cases A : (0 ≤ p1.toInt ∧ p1.toInt < g 3 0 ∧ g 65 p1.toInt.toNat = 0 ∧ ok_wi p2.toInt p3.toInt p4.toInt p5.toInt)
    · obtain ⟨a1, a2⟩ := c0.1 A
      obtain ⟨b1, b2⟩ := m0.1 A
      refine ⟨⟨fun k hk => ?_, fun o ho => by rw [b2]; exact WR_off (hW.2 o ho) (by omega)⟩, by rw [a1, b1]⟩
      rw [k66, a2, b2]
      by_cases q : k = p1.toInt.toNat
      · rw [q, pz_up_s]; exact WR_set A.2.2.2
      · rw [pz_up_n q]; exact WR_off (hW.1 k hk) q
    · obtain ⟨a1, a2⟩ := c0.2 A
      obtain ⟨b1, b2⟩ := m0.2 A
      rw [k66, a2, b2]; exact ⟨hW, by rw [a1, b1]⟩
  refine ⟨⟨?_, ?_, ?_, ?_, ?_, ?_, ?_, ?_⟩, ?_⟩
  · exact RC_cg hC (fun c hc => F c ((show ∀ c, c ∈ ([1, 2, 3, 4, 5, 6, 14, 18, 33, 34, 35, 101, 104, 111, 112, 114, 118, 121, 122, 126] : List Nat) → c ∉ ([66, 100, 135] : List Nat) by decide) c hc))
  · exact RO_cg hO (fun c hc => F c ((show ∀ c, c ∈ ([2, 50, 51, 52, 54, 56, 105, 106, 107, 108] : List Nat) → c ∉ ([66, 100, 135] : List Nat) by decide) c hc))
  · exact RF_cg hF (fun c hc => F c ((show ∀ c, c ∈ ([1, 2, 41, 42, 43, 44, 53, 102, 103, 109, 110] : List Nat) → c ∉ ([66, 100, 135] : List Nat) by decide) c hc))
  · exact RG_cg hG (fun c hc => F c ((show ∀ c, c ∈ ([1, 2, 3, 4, 60, 61, 62, 63, 64, 65, 67, 68, 127, 128, 129, 130, 131, 132, 133, 134] : List Nat) → c ∉ ([66, 100, 135] : List Nat) by decide) c hc))
  · exact RT_cg hT (fun c hc => F c ((show ∀ c, c ∈ ([1, 3, 4, 45, 61, 62, 63] : List Nat) → c ∉ ([66, 100, 135] : List Nat) by decide) c hc))
  · unfold RW; rw [k3, k56]; exact key.1
  · exact RR_cg hR (fun c hc => F c ((show ∀ c, c ∈ ([11, 12, 13, 80, 81, 82, 122, 123, 125] : List Nat) → c ∉ ([66, 100, 135] : List Nat) by decide) c hc))
  · exact RS_cg hS (fun c hc => F c ((show ∀ c, c ∈ ([19, 86, 113] : List Nat) → c ∉ ([66, 100, 135] : List Nat) by decide) c hc))
  · exact key.2

theorem st_rushWish {g u1 u2 : gh} {r1 r2 p1 p2 p3 p4 p5 : Int32} (h : RLA g) (f1 : ∀ c, c ∉ ([56] : List Nat) → u1 c = g c) (f2 : ∀ c, c ∉ ([100, 135] : List Nat) → u2 c = u1 c)
    (c0 : ((0 ≤ p1.toInt ∧ p1.toInt < g 2 0 ∧ g 54 p1.toInt.toNat = 0 ∧ ok_wi p2.toInt p3.toInt p4.toInt p5.toInt) → r1.toInt = 1 ∧ u1 56 = pz_up (g 56) p1.toInt.toNat (wz_c p2.toInt p3.toInt p4.toInt p5.toInt)) ∧ (¬ ((0 ≤ p1.toInt ∧ p1.toInt < g 2 0 ∧ g 54 p1.toInt.toNat = 0 ∧ ok_wi p2.toInt p3.toInt p4.toInt p5.toInt)) → r1.toInt = 0 ∧ u1 56 = g 56))
    (m0 : ((0 ≤ p1.toInt ∧ p1.toInt < u1 104 0 ∧ u1 108 p1.toInt.toNat = 0 ∧ ok_wi p2.toInt p3.toInt p4.toInt p5.toInt) → r2.toInt = 1 ∧ u2 135 = w4_f (u1 135) (200 + p1.toInt.toNat) p2.toInt p3.toInt p4.toInt p5.toInt) ∧ (¬ ((0 ≤ p1.toInt ∧ p1.toInt < u1 104 0 ∧ u1 108 p1.toInt.toNat = 0 ∧ ok_wi p2.toInt p3.toInt p4.toInt p5.toInt)) → r2.toInt = 0 ∧ u2 135 = u1 135)) : RLA u2 ∧ r1.toInt = r2.toInt := by
  obtain ⟨hC, hO, hF, hG, hT, hW, hR, hS⟩ := h
  have F : ∀ c, c ∉ ([56, 100, 135] : List Nat) → u2 c = g c := fun c hc => by rw [f2 c (fun q => hc ((show ∀ c, c ∈ ([100, 135] : List Nat) → c ∈ ([56, 100, 135] : List Nat) by decide) c q)), f1 c (fun q => hc ((show ∀ c, c ∈ ([56] : List Nat) → c ∈ ([56, 100, 135] : List Nat) by decide) c q))]
  have ⟨C1, C2, C3, C4, C5, C6, C14, C18, C33, C34, C35, C1a, C1b, C2a, C2b, C3a, C3b, C5a, C5b, C4a, C6a, C6b, C22a, C22b⟩ := hC
  have ⟨e50, e51, e52, e54, O5, O6⟩ := hO
  have ⟨e41, e42, e43, e44, F5, F6, F7, F8⟩ := hF
  have ⟨e60, e61, e62, e63, e64, e65, e67, e68, G9⟩ := hG
  rw [f1 104 (by decide), f1 108 (by decide), f1 135 (by decide), ← e54, C2] at m0
  have k56 : u2 56 = u1 56 := f2 56 (by decide)
  have k1 : u2 1 = g 1 := F 1 (by decide)
  have k2 : u2 2 = g 2 := F 2 (by decide)
  have k3 : u2 3 = g 3 := F 3 (by decide)
  have k4 : u2 4 = g 4 := F 4 (by decide)
  have k5 : u2 5 = g 5 := F 5 (by decide)
  have k6 : u2 6 = g 6 := F 6 (by decide)
  have k11 : u2 11 = g 11 := F 11 (by decide)
  have k12 : u2 12 = g 12 := F 12 (by decide)
  have k13 : u2 13 = g 13 := F 13 (by decide)
  have k14 : u2 14 = g 14 := F 14 (by decide)
  have k18 : u2 18 = g 18 := F 18 (by decide)
  have k19 : u2 19 = g 19 := F 19 (by decide)
  have k33 : u2 33 = g 33 := F 33 (by decide)
  have k34 : u2 34 = g 34 := F 34 (by decide)
  have k35 : u2 35 = g 35 := F 35 (by decide)
  have k41 : u2 41 = g 41 := F 41 (by decide)
  have k42 : u2 42 = g 42 := F 42 (by decide)
  have k43 : u2 43 = g 43 := F 43 (by decide)
  have k44 : u2 44 = g 44 := F 44 (by decide)
  have k45 : u2 45 = g 45 := F 45 (by decide)
  have k50 : u2 50 = g 50 := F 50 (by decide)
  have k51 : u2 51 = g 51 := F 51 (by decide)
  have k52 : u2 52 = g 52 := F 52 (by decide)
  have k53 : u2 53 = g 53 := F 53 (by decide)
  have k54 : u2 54 = g 54 := F 54 (by decide)
  have k60 : u2 60 = g 60 := F 60 (by decide)
  have k61 : u2 61 = g 61 := F 61 (by decide)
  have k62 : u2 62 = g 62 := F 62 (by decide)
  have k63 : u2 63 = g 63 := F 63 (by decide)
  have k64 : u2 64 = g 64 := F 64 (by decide)
  have k65 : u2 65 = g 65 := F 65 (by decide)
  have k66 : u2 66 = g 66 := F 66 (by decide)
  have k67 : u2 67 = g 67 := F 67 (by decide)
  have k68 : u2 68 = g 68 := F 68 (by decide)
  have k80 : u2 80 = g 80 := F 80 (by decide)
  have k81 : u2 81 = g 81 := F 81 (by decide)
  have k82 : u2 82 = g 82 := F 82 (by decide)
  have k86 : u2 86 = g 86 := F 86 (by decide)
  have k101 : u2 101 = g 101 := F 101 (by decide)
  have k102 : u2 102 = g 102 := F 102 (by decide)
  have k103 : u2 103 = g 103 := F 103 (by decide)
  have k104 : u2 104 = g 104 := F 104 (by decide)
  have k105 : u2 105 = g 105 := F 105 (by decide)
  have k106 : u2 106 = g 106 := F 106 (by decide)
  have k107 : u2 107 = g 107 := F 107 (by decide)
  have k108 : u2 108 = g 108 := F 108 (by decide)
  have k109 : u2 109 = g 109 := F 109 (by decide)
  have k110 : u2 110 = g 110 := F 110 (by decide)
  have k111 : u2 111 = g 111 := F 111 (by decide)
  have k112 : u2 112 = g 112 := F 112 (by decide)
  have k113 : u2 113 = g 113 := F 113 (by decide)
  have k114 : u2 114 = g 114 := F 114 (by decide)
  have k118 : u2 118 = g 118 := F 118 (by decide)
  have k121 : u2 121 = g 121 := F 121 (by decide)
  have k122 : u2 122 = g 122 := F 122 (by decide)
  have k123 : u2 123 = g 123 := F 123 (by decide)
  have k125 : u2 125 = g 125 := F 125 (by decide)
  have k126 : u2 126 = g 126 := F 126 (by decide)
  have k127 : u2 127 = g 127 := F 127 (by decide)
  have k128 : u2 128 = g 128 := F 128 (by decide)
  have k129 : u2 129 = g 129 := F 129 (by decide)
  have k130 : u2 130 = g 130 := F 130 (by decide)
  have k131 : u2 131 = g 131 := F 131 (by decide)
  have k132 : u2 132 = g 132 := F 132 (by decide)
  have k133 : u2 133 = g 133 := F 133 (by decide)
  have k134 : u2 134 = g 134 := F 134 (by decide)
  have key : ((∀ k, k < (g 3 0).toNat → WR (g 66 k) (u2 135) k) ∧ (∀ o, o < 10 → WR (u2 56 o) (u2 135) (200 + o))) ∧ r1.toInt = r2.toInt ∧ (∀ n, (g 2 0).toNat ≤ n → u2 56 n = -1) ∧ (∀ n, g 54 n ≠ 0 → u2 56 n < 0) := by
    by_cases A : (0 ≤ p1.toInt ∧ p1.toInt < g 2 0 ∧ g 54 p1.toInt.toNat = 0 ∧ ok_wi p2.toInt p3.toInt p4.toInt p5.toInt)
    · obtain ⟨a1, a2⟩ := c0.1 A
      obtain ⟨b1, b2⟩ := m0.1 A
      refine ⟨⟨fun k hk => by rw [b2]; exact WR_off (hW.1 k hk) (by omega), fun o ho => ?_⟩, by rw [a1, b1], fun n hn => by rw [k56, a2, pz_up_n (by omega)]; exact (O5 n hn).2.2.2, fun n hn => ?_⟩
      · rw [k56, a2, b2]
        by_cases q : o = p1.toInt.toNat
        · rw [q, pz_up_s]; exact WR_set A.2.2.2
        · rw [pz_up_n q]; exact WR_off (hW.2 o ho) (by omega)
      · rw [k56, a2, pz_up_n (fun q => hn (by rw [q]; exact A.2.2.1))]; exact O6 n hn
    · obtain ⟨a1, a2⟩ := c0.2 A
      obtain ⟨b1, b2⟩ := m0.2 A
      rw [k56, a2, b2]; exact ⟨hW, by rw [a1, b1], fun n hn => (O5 n hn).2.2.2, O6⟩
  refine ⟨⟨?_, ?_, ?_, ?_, ?_, ?_, ?_, ?_⟩, ?_⟩
  · exact RC_cg hC (fun c hc => F c ((show ∀ c, c ∈ ([1, 2, 3, 4, 5, 6, 14, 18, 33, 34, 35, 101, 104, 111, 112, 114, 118, 121, 122, 126] : List Nat) → c ∉ ([56, 100, 135] : List Nat) by decide) c hc))
  · exact ⟨by rw [k50, k105]; exact e50, by rw [k51, k106]; exact e51, by rw [k52, k107]; exact e52, by rw [k54, k108]; exact e54, fun n hn => by rw [k2] at hn; rw [k51, k52, k54]; exact ⟨(O5 n hn).1, (O5 n hn).2.1, (O5 n hn).2.2.1, key.2.2.1 n hn⟩, by rw [k54]; exact key.2.2.2⟩
  · exact RF_cg hF (fun c hc => F c ((show ∀ c, c ∈ ([1, 2, 41, 42, 43, 44, 53, 102, 103, 109, 110] : List Nat) → c ∉ ([56, 100, 135] : List Nat) by decide) c hc))
  · exact RG_cg hG (fun c hc => F c ((show ∀ c, c ∈ ([1, 2, 3, 4, 60, 61, 62, 63, 64, 65, 67, 68, 127, 128, 129, 130, 131, 132, 133, 134] : List Nat) → c ∉ ([56, 100, 135] : List Nat) by decide) c hc))
  · exact RT_cg hT (fun c hc => F c ((show ∀ c, c ∈ ([1, 3, 4, 45, 61, 62, 63] : List Nat) → c ∉ ([56, 100, 135] : List Nat) by decide) c hc))
  · unfold RW; rw [k3, k66]; exact key.1
  · exact RR_cg hR (fun c hc => F c ((show ∀ c, c ∈ ([11, 12, 13, 80, 81, 82, 122, 123, 125] : List Nat) → c ∉ ([56, 100, 135] : List Nat) by decide) c hc))
  · exact RS_cg hS (fun c hc => F c ((show ∀ c, c ∈ ([19, 86, 113] : List Nat) → c ∉ ([56, 100, 135] : List Nat) by decide) c hc))
  · exact key.2.1

theorem pz_id {r : Nat → Int} {j : Nat} {z : Int} (h : r j = z) : pz_up r j z = r := by
  funext i
  by_cases e : i = j
  · rw [e, pz_up_s, h]
  · exact pz_up_n e
theorem cnt_none {r : Nat → Int} {v : Int} : ∀ n, (∀ j, j < n → r j ≠ v) → cnt n r v = 0 := by
  intro n
  induction n with
  | zero => exact fun _ => rfl
  | succ n ih =>
    intro h
    rcases cnt_succ n r v with ⟨a, _⟩ | ⟨_, b⟩
    · exact absurd a (h n (by omega))
    · rw [b]; exact ih (fun j hj => h j (by omega))
theorem ga_none {fl we ye : Nat → Int} {f w y : Int} : ∀ n, (∀ k, k < n → ¬ (ye k = y ∧ fl k = f)) → ga_f fl we ye f w y n = -1 := by
  intro n
  induction n with
  | zero => exact fun _ => rfl
  | succ n ih =>
    intro h
    show (if _ then _ else _) = _
    rw [if_neg (fun q => h n (by omega) ⟨q.1, q.2.1⟩)]
    exact ih (fun k hk => h k (by omega))

theorem st_owner {g u1 u2 : gh} {r1 r2 p1 : Int32} (h : RLA g) (f1 : ∀ c, c ∉ ([2, 34, 50, 51, 52, 53, 54, 55, 56] : List Nat) → u1 c = g c) (f2 : ∀ c, c ∉ ([100, 104, 105] : List Nat) → u2 c = u1 c)
    (c0 : 0 ≤ p1.toInt ∧ p1.toInt ≤ 9999 ∧ g 2 0 < 10 → r1.toInt = g 2 0 ∧ u1 2 0 = g 2 0 + 1 ∧ u1 34 0 = g 2 0 + 1)
    (c1 : ¬ (0 ≤ p1.toInt ∧ p1.toInt ≤ 9999 ∧ g 2 0 < 10) → r1.toInt = -1 ∧ u1 2 0 = g 2 0 ∧ u1 34 0 = g 2 0)
    (c2 : (0 ≤ p1.toInt ∧ p1.toInt ≤ 9999 ∧ g 2 0 < 10 → u1 50 = pz_up (g 50) (g 2 0).toNat p1.toInt) ∧ (¬ (0 ≤ p1.toInt ∧ p1.toInt ≤ 9999 ∧ g 2 0 < 10) → u1 50 = g 50))
    (c3 : (0 ≤ p1.toInt ∧ p1.toInt ≤ 9999 ∧ g 2 0 < 10 → u1 51 = pz_up (g 51) (g 2 0).toNat 0) ∧ (¬ (0 ≤ p1.toInt ∧ p1.toInt ≤ 9999 ∧ g 2 0 < 10) → u1 51 = g 51))
    (c4 : (0 ≤ p1.toInt ∧ p1.toInt ≤ 9999 ∧ g 2 0 < 10 → u1 52 = pz_up (g 52) (g 2 0).toNat 0) ∧ (¬ (0 ≤ p1.toInt ∧ p1.toInt ≤ 9999 ∧ g 2 0 < 10) → u1 52 = g 52))
    (c5 : (0 ≤ p1.toInt ∧ p1.toInt ≤ 9999 ∧ g 2 0 < 10 → u1 53 = pz_up (g 53) (g 2 0).toNat 0) ∧ (¬ (0 ≤ p1.toInt ∧ p1.toInt ≤ 9999 ∧ g 2 0 < 10) → u1 53 = g 53))
    (c6 : (0 ≤ p1.toInt ∧ p1.toInt ≤ 9999 ∧ g 2 0 < 10 → u1 54 = pz_up (g 54) (g 2 0).toNat 0) ∧ (¬ (0 ≤ p1.toInt ∧ p1.toInt ≤ 9999 ∧ g 2 0 < 10) → u1 54 = g 54))
    (c7 : (0 ≤ p1.toInt ∧ p1.toInt ≤ 9999 ∧ g 2 0 < 10 → u1 55 = pz_up (g 55) (g 2 0).toNat 0) ∧ (¬ (0 ≤ p1.toInt ∧ p1.toInt ≤ 9999 ∧ g 2 0 < 10) → u1 55 = g 55))
    (c8 : (0 ≤ p1.toInt ∧ p1.toInt ≤ 9999 ∧ g 2 0 < 10 → u1 56 = pz_up (g 56) (g 2 0).toNat (-1)) ∧ (¬ (0 ≤ p1.toInt ∧ p1.toInt ≤ 9999 ∧ g 2 0 < 10) → u1 56 = g 56))
    (m0 : 0 ≤ p1.toInt ∧ p1.toInt ≤ 9999 ∧ u1 104 0 < 10 → r2.toInt = u1 104 0 ∧ u2 104 0 = u1 104 0 + 1)
    (m1 : ¬ (0 ≤ p1.toInt ∧ p1.toInt ≤ 9999 ∧ u1 104 0 < 10) → r2.toInt = -1 ∧ u2 104 0 = u1 104 0)
    (m2 : ((0 ≤ p1.toInt ∧ p1.toInt ≤ 9999 ∧ u1 104 0 < 10) → u2 105 = pz_up (u1 105) (u1 104 0).toNat p1.toInt) ∧ (¬ ((0 ≤ p1.toInt ∧ p1.toInt ≤ 9999 ∧ u1 104 0 < 10)) → u2 105 = u1 105)) : RLA u2 ∧ r1.toInt = r2.toInt := by
  obtain ⟨hC, hO, hF, hG, hT, hW, hR, hS⟩ := h
  have F : ∀ c, c ∉ ([2, 34, 50, 51, 52, 53, 54, 55, 56, 100, 104, 105] : List Nat) → u2 c = g c := fun c hc => by rw [f2 c (fun q => hc ((show ∀ c, c ∈ ([100, 104, 105] : List Nat) → c ∈ ([2, 34, 50, 51, 52, 53, 54, 55, 56, 100, 104, 105] : List Nat) by decide) c q)), f1 c (fun q => hc ((show ∀ c, c ∈ ([2, 34, 50, 51, 52, 53, 54, 55, 56] : List Nat) → c ∈ ([2, 34, 50, 51, 52, 53, 54, 55, 56, 100, 104, 105] : List Nat) by decide) c q))]
  have ⟨C1, C2, C3, C4, C5, C6, C14, C18, C33, C34, C35, C1a, C1b, C2a, C2b, C3a, C3b, C5a, C5b, C4a, C6a, C6b, C22a, C22b⟩ := hC
  have ⟨e50, e51, e52, e54, O5, O6⟩ := hO
  have ⟨e41, e42, e43, e44, F5, F6, F7, F8⟩ := hF
  have ⟨e60, e61, e62, e63, e64, e65, e67, e68, G9⟩ := hG
  rw [f1 104 (by decide), C2] at m0
  rw [f1 104 (by decide), C2] at m1
  rw [f1 104 (by decide), f1 105 (by decide), ← e50, C2] at m2
  have k2 : u2 2 = u1 2 := f2 2 (by decide)
  have k34 : u2 34 = u1 34 := f2 34 (by decide)
  have k50 : u2 50 = u1 50 := f2 50 (by decide)
  have k51 : u2 51 = u1 51 := f2 51 (by decide)
  have k52 : u2 52 = u1 52 := f2 52 (by decide)
  have k53 : u2 53 = u1 53 := f2 53 (by decide)
  have k54 : u2 54 = u1 54 := f2 54 (by decide)
  have k55 : u2 55 = u1 55 := f2 55 (by decide)
  have k56 : u2 56 = u1 56 := f2 56 (by decide)
  have k1 : u2 1 = g 1 := F 1 (by decide)
  have k3 : u2 3 = g 3 := F 3 (by decide)
  have k4 : u2 4 = g 4 := F 4 (by decide)
  have k5 : u2 5 = g 5 := F 5 (by decide)
  have k6 : u2 6 = g 6 := F 6 (by decide)
  have k11 : u2 11 = g 11 := F 11 (by decide)
  have k12 : u2 12 = g 12 := F 12 (by decide)
  have k13 : u2 13 = g 13 := F 13 (by decide)
  have k14 : u2 14 = g 14 := F 14 (by decide)
  have k18 : u2 18 = g 18 := F 18 (by decide)
  have k19 : u2 19 = g 19 := F 19 (by decide)
  have k33 : u2 33 = g 33 := F 33 (by decide)
  have k35 : u2 35 = g 35 := F 35 (by decide)
  have k41 : u2 41 = g 41 := F 41 (by decide)
  have k42 : u2 42 = g 42 := F 42 (by decide)
  have k43 : u2 43 = g 43 := F 43 (by decide)
  have k44 : u2 44 = g 44 := F 44 (by decide)
  have k45 : u2 45 = g 45 := F 45 (by decide)
  have k60 : u2 60 = g 60 := F 60 (by decide)
  have k61 : u2 61 = g 61 := F 61 (by decide)
  have k62 : u2 62 = g 62 := F 62 (by decide)
  have k63 : u2 63 = g 63 := F 63 (by decide)
  have k64 : u2 64 = g 64 := F 64 (by decide)
  have k65 : u2 65 = g 65 := F 65 (by decide)
  have k66 : u2 66 = g 66 := F 66 (by decide)
  have k67 : u2 67 = g 67 := F 67 (by decide)
  have k68 : u2 68 = g 68 := F 68 (by decide)
  have k80 : u2 80 = g 80 := F 80 (by decide)
  have k81 : u2 81 = g 81 := F 81 (by decide)
  have k82 : u2 82 = g 82 := F 82 (by decide)
  have k86 : u2 86 = g 86 := F 86 (by decide)
  have k101 : u2 101 = g 101 := F 101 (by decide)
  have k102 : u2 102 = g 102 := F 102 (by decide)
  have k103 : u2 103 = g 103 := F 103 (by decide)
  have k106 : u2 106 = g 106 := F 106 (by decide)
  have k107 : u2 107 = g 107 := F 107 (by decide)
  have k108 : u2 108 = g 108 := F 108 (by decide)
  have k109 : u2 109 = g 109 := F 109 (by decide)
  have k110 : u2 110 = g 110 := F 110 (by decide)
  have k111 : u2 111 = g 111 := F 111 (by decide)
  have k112 : u2 112 = g 112 := F 112 (by decide)
  have k113 : u2 113 = g 113 := F 113 (by decide)
  have k114 : u2 114 = g 114 := F 114 (by decide)
  have k118 : u2 118 = g 118 := F 118 (by decide)
  have k121 : u2 121 = g 121 := F 121 (by decide)
  have k122 : u2 122 = g 122 := F 122 (by decide)
  have k123 : u2 123 = g 123 := F 123 (by decide)
  have k125 : u2 125 = g 125 := F 125 (by decide)
  have k126 : u2 126 = g 126 := F 126 (by decide)
  have k127 : u2 127 = g 127 := F 127 (by decide)
  have k128 : u2 128 = g 128 := F 128 (by decide)
  have k129 : u2 129 = g 129 := F 129 (by decide)
  have k130 : u2 130 = g 130 := F 130 (by decide)
  have k131 : u2 131 = g 131 := F 131 (by decide)
  have k132 : u2 132 = g 132 := F 132 (by decide)
  have k133 : u2 133 = g 133 := F 133 (by decide)
  have k134 : u2 134 = g 134 := F 134 (by decide)
  have k135 : u2 135 = g 135 := F 135 (by decide)
  have z53 : g 2 0 < 10 → g 53 (g 2 0).toNat = 0 := fun hn => by rw [F8 (g 2 0).toNat (by omega), cnt_none 318 (fun j hj => by have := (F7 j hj).2; omega)]; rfl
  have key : u2 50 = u2 105 ∧ u2 51 = g 51 ∧ u2 52 = g 52 ∧ u2 53 = g 53 ∧ u2 54 = g 54 ∧ u2 56 = g 56 ∧ u2 104 0 = u2 2 0 ∧ u2 2 0 = u2 34 0 ∧ g 2 0 ≤ u2 2 0 ∧ u2 2 0 ≤ 10 ∧ r1.toInt = r2.toInt := by
    by_cases A : 0 ≤ p1.toInt ∧ p1.toInt ≤ 9999 ∧ g 2 0 < 10
    · have a := c0 A; have b := m0 A; have z := O5 (g 2 0).toNat (by omega)
      exact ⟨by rw [k50, c2.1 A, m2.1 A], by rw [k51, c3.1 A]; exact pz_id z.1, by rw [k52, c4.1 A]; exact pz_id z.2.1, by rw [k53, c5.1 A]; exact pz_id (z53 A.2.2), by rw [k54, c6.1 A]; exact pz_id z.2.2.1, by rw [k56, c8.1 A]; exact pz_id z.2.2.2, by rw [k2]; omega, by rw [k2, k34]; omega, by rw [k2]; omega, by rw [k2]; omega, by omega⟩
    · have a := c1 A; have b := m1 A
      exact ⟨by rw [k50, c2.2 A, m2.2 A], by rw [k51, c3.2 A], by rw [k52, c4.2 A], by rw [k53, c5.2 A], by rw [k54, c6.2 A], by rw [k56, c8.2 A], by rw [k2]; omega, by rw [k2, k34]; omega, by rw [k2]; omega, by rw [k2]; omega, by omega⟩
  obtain ⟨q50, q51, q52, q53, q54, q56, n104, n34, n2a, n2b, qr⟩ := key
  clear k50 k51 k52 k53 k54 k55 k56 k2 k34
  refine ⟨⟨?_, ?_, ?_, ?_, ?_, ?_, ?_, ?_⟩, ?_⟩
  · unfold RC; rw [k101, k1, k126, k3, k111, k4, k112, k5, k114, k6, k121, k14, k118, k18, k33, k35, k122]; exact ⟨C1, n104, C3, C4, C5, C6, C14, C18, C33, n34, C35, C1a, C1b, by omega, n2b, C3a, C3b, C5a, C5b, C4a, C6a, C6b, C22a, C22b⟩
  · exact ⟨q50, by rw [q51, k106]; exact e51, by rw [q52, k107]; exact e52, by rw [q54, k108]; exact e54, fun n hn => by rw [q51, q52, q54, q56]; exact O5 n (by omega), by rw [q54, q56]; exact O6⟩
  · exact ⟨by rw [k41, k102]; exact e41, by rw [k42, k103]; exact e42, by rw [k43, k109]; exact e43, by rw [k44, k110]; exact e44, by rw [k1, k43, k44]; exact F5, by rw [k1, k42]; exact F6, fun j hj => by rw [k43]; have := F7 j hj; omega, by rw [k43, q53]; exact F8⟩
  · exact ⟨by rw [k60, k127]; exact e60, by rw [k61, k128]; exact e61, by rw [k62, k129]; exact e62, by rw [k63, k130]; exact e63, by rw [k64, k131]; exact e64, by rw [k65, k132]; exact e65, by rw [k67, k133]; exact e67, by rw [k68, k134]; exact e68, fun k hk => by rw [k1, k4, k60, k61, k62, k63, k64, k68]; rw [k3] at hk; have := G9 k hk; omega⟩
  · exact RT_cg hT (fun c hc => F c ((show ∀ c, c ∈ ([1, 3, 4, 45, 61, 62, 63] : List Nat) → c ∉ ([2, 34, 50, 51, 52, 53, 54, 55, 56, 100, 104, 105] : List Nat) by decide) c hc))
  · unfold RW; rw [k3, k66, k135, q56]; exact hW
  · exact RR_cg hR (fun c hc => F c ((show ∀ c, c ∈ ([11, 12, 13, 80, 81, 82, 122, 123, 125] : List Nat) → c ∉ ([2, 34, 50, 51, 52, 53, 54, 55, 56, 100, 104, 105] : List Nat) by decide) c hc))
  · exact RS_cg hS (fun c hc => F c ((show ∀ c, c ∈ ([19, 86, 113] : List Nat) → c ∉ ([2, 34, 50, 51, 52, 53, 54, 55, 56, 100, 104, 105] : List Nat) by decide) c hc))
  · exact qr

theorem st_flat {g u1 u2 : gh} {r1 r2 p1 p2 : Int32} (h : RLA g) (f1 : ∀ c, c ∉ ([1, 33, 41, 42, 43, 44, 45] : List Nat) → u1 c = g c) (f2 : ∀ c, c ∉ ([100, 101, 102, 103] : List Nat) → u2 c = u1 c)
    (c0 : 0 ≤ p1.toInt ∧ p1.toInt ≤ 3 ∧ 1 ≤ p2.toInt ∧ p2.toInt ≤ 4 ∧ g 1 0 < 6 → r1.toInt = g 1 0 ∧ u1 1 0 = g 1 0 + 1 ∧ u1 33 0 = g 1 0 + 1)
    (c1 : ¬ (0 ≤ p1.toInt ∧ p1.toInt ≤ 3 ∧ 1 ≤ p2.toInt ∧ p2.toInt ≤ 4 ∧ g 1 0 < 6) → r1.toInt = -1 ∧ u1 1 0 = g 1 0 ∧ u1 33 0 = g 1 0)
    (c2 : (0 ≤ p1.toInt ∧ p1.toInt ≤ 3 ∧ 1 ≤ p2.toInt ∧ p2.toInt ≤ 4 ∧ g 1 0 < 6 → u1 41 = pz_up (g 41) (g 1 0).toNat p1.toInt) ∧ (¬ (0 ≤ p1.toInt ∧ p1.toInt ≤ 3 ∧ 1 ≤ p2.toInt ∧ p2.toInt ≤ 4 ∧ g 1 0 < 6) → u1 41 = g 41))
    (c3 : (0 ≤ p1.toInt ∧ p1.toInt ≤ 3 ∧ 1 ≤ p2.toInt ∧ p2.toInt ≤ 4 ∧ g 1 0 < 6 → u1 42 = pz_up (g 42) (g 1 0).toNat p2.toInt) ∧ (¬ (0 ≤ p1.toInt ∧ p1.toInt ≤ 3 ∧ 1 ≤ p2.toInt ∧ p2.toInt ≤ 4 ∧ g 1 0 < 6) → u1 42 = g 42))
    (c4 : (0 ≤ p1.toInt ∧ p1.toInt ≤ 3 ∧ 1 ≤ p2.toInt ∧ p2.toInt ≤ 4 ∧ g 1 0 < 6 → u1 43 = fz (g 43) (53 * (g 1 0).toNat) (-1) 53) ∧ (¬ (0 ≤ p1.toInt ∧ p1.toInt ≤ 3 ∧ 1 ≤ p2.toInt ∧ p2.toInt ≤ 4 ∧ g 1 0 < 6) → u1 43 = g 43))
    (c5 : (0 ≤ p1.toInt ∧ p1.toInt ≤ 3 ∧ 1 ≤ p2.toInt ∧ p2.toInt ≤ 4 ∧ g 1 0 < 6 → u1 44 = fz (g 44) (53 * (g 1 0).toNat) (0) 53) ∧ (¬ (0 ≤ p1.toInt ∧ p1.toInt ≤ 3 ∧ 1 ≤ p2.toInt ∧ p2.toInt ≤ 4 ∧ g 1 0 < 6) → u1 44 = g 44))
    (c6 : (0 ≤ p1.toInt ∧ p1.toInt ≤ 3 ∧ 1 ≤ p2.toInt ∧ p2.toInt ≤ 4 ∧ g 1 0 < 6 → u1 45 = fz (g 45) (53 * (g 1 0).toNat) (-1) 53) ∧ (¬ (0 ≤ p1.toInt ∧ p1.toInt ≤ 3 ∧ 1 ≤ p2.toInt ∧ p2.toInt ≤ 4 ∧ g 1 0 < 6) → u1 45 = g 45))
    (m0 : 0 ≤ p1.toInt ∧ p1.toInt ≤ 3 ∧ 1 ≤ p2.toInt ∧ p2.toInt ≤ 4 ∧ u1 101 0 < 6 → r2.toInt = u1 101 0 ∧ u2 101 0 = u1 101 0 + 1)
    (m1 : ¬ (0 ≤ p1.toInt ∧ p1.toInt ≤ 3 ∧ 1 ≤ p2.toInt ∧ p2.toInt ≤ 4 ∧ u1 101 0 < 6) → r2.toInt = -1 ∧ u2 101 0 = u1 101 0)
    (m2 : ((0 ≤ p1.toInt ∧ p1.toInt ≤ 3 ∧ 1 ≤ p2.toInt ∧ p2.toInt ≤ 4 ∧ u1 101 0 < 6) → u2 102 = pz_up (u1 102) (u1 101 0).toNat p1.toInt ∧ u2 103 = pz_up (u1 103) (u1 101 0).toNat p2.toInt) ∧ (¬ ((0 ≤ p1.toInt ∧ p1.toInt ≤ 3 ∧ 1 ≤ p2.toInt ∧ p2.toInt ≤ 4 ∧ u1 101 0 < 6)) → u2 102 = u1 102 ∧ u2 103 = u1 103)) : RLA u2 ∧ r1.toInt = r2.toInt := by
  obtain ⟨hC, hO, hF, hG, hT, hW, hR, hS⟩ := h
  have F : ∀ c, c ∉ ([1, 33, 41, 42, 43, 44, 45, 100, 101, 102, 103] : List Nat) → u2 c = g c := fun c hc => by rw [f2 c (fun q => hc ((show ∀ c, c ∈ ([100, 101, 102, 103] : List Nat) → c ∈ ([1, 33, 41, 42, 43, 44, 45, 100, 101, 102, 103] : List Nat) by decide) c q)), f1 c (fun q => hc ((show ∀ c, c ∈ ([1, 33, 41, 42, 43, 44, 45] : List Nat) → c ∈ ([1, 33, 41, 42, 43, 44, 45, 100, 101, 102, 103] : List Nat) by decide) c q))]
  have ⟨C1, C2, C3, C4, C5, C6, C14, C18, C33, C34, C35, C1a, C1b, C2a, C2b, C3a, C3b, C5a, C5b, C4a, C6a, C6b, C22a, C22b⟩ := hC
  have ⟨e50, e51, e52, e54, O5, O6⟩ := hO
  have ⟨e41, e42, e43, e44, F5, F6, F7, F8⟩ := hF
  have ⟨e60, e61, e62, e63, e64, e65, e67, e68, G9⟩ := hG
  rw [f1 101 (by decide), C1] at m0
  rw [f1 101 (by decide), C1] at m1
  rw [f1 101 (by decide), f1 102 (by decide), f1 103 (by decide), ← e41, ← e42, C1] at m2
  have k1 : u2 1 = u1 1 := f2 1 (by decide)
  have k33 : u2 33 = u1 33 := f2 33 (by decide)
  have k41 : u2 41 = u1 41 := f2 41 (by decide)
  have k42 : u2 42 = u1 42 := f2 42 (by decide)
  have k43 : u2 43 = u1 43 := f2 43 (by decide)
  have k44 : u2 44 = u1 44 := f2 44 (by decide)
  have k45 : u2 45 = u1 45 := f2 45 (by decide)
  have k2 : u2 2 = g 2 := F 2 (by decide)
  have k3 : u2 3 = g 3 := F 3 (by decide)
  have k4 : u2 4 = g 4 := F 4 (by decide)
  have k5 : u2 5 = g 5 := F 5 (by decide)
  have k6 : u2 6 = g 6 := F 6 (by decide)
  have k11 : u2 11 = g 11 := F 11 (by decide)
  have k12 : u2 12 = g 12 := F 12 (by decide)
  have k13 : u2 13 = g 13 := F 13 (by decide)
  have k14 : u2 14 = g 14 := F 14 (by decide)
  have k18 : u2 18 = g 18 := F 18 (by decide)
  have k19 : u2 19 = g 19 := F 19 (by decide)
  have k34 : u2 34 = g 34 := F 34 (by decide)
  have k35 : u2 35 = g 35 := F 35 (by decide)
  have k50 : u2 50 = g 50 := F 50 (by decide)
  have k51 : u2 51 = g 51 := F 51 (by decide)
  have k52 : u2 52 = g 52 := F 52 (by decide)
  have k53 : u2 53 = g 53 := F 53 (by decide)
  have k54 : u2 54 = g 54 := F 54 (by decide)
  have k56 : u2 56 = g 56 := F 56 (by decide)
  have k60 : u2 60 = g 60 := F 60 (by decide)
  have k61 : u2 61 = g 61 := F 61 (by decide)
  have k62 : u2 62 = g 62 := F 62 (by decide)
  have k63 : u2 63 = g 63 := F 63 (by decide)
  have k64 : u2 64 = g 64 := F 64 (by decide)
  have k65 : u2 65 = g 65 := F 65 (by decide)
  have k66 : u2 66 = g 66 := F 66 (by decide)
  have k67 : u2 67 = g 67 := F 67 (by decide)
  have k68 : u2 68 = g 68 := F 68 (by decide)
  have k80 : u2 80 = g 80 := F 80 (by decide)
  have k81 : u2 81 = g 81 := F 81 (by decide)
  have k82 : u2 82 = g 82 := F 82 (by decide)
  have k86 : u2 86 = g 86 := F 86 (by decide)
  have k104 : u2 104 = g 104 := F 104 (by decide)
  have k105 : u2 105 = g 105 := F 105 (by decide)
  have k106 : u2 106 = g 106 := F 106 (by decide)
  have k107 : u2 107 = g 107 := F 107 (by decide)
  have k108 : u2 108 = g 108 := F 108 (by decide)
  have k109 : u2 109 = g 109 := F 109 (by decide)
  have k110 : u2 110 = g 110 := F 110 (by decide)
  have k111 : u2 111 = g 111 := F 111 (by decide)
  have k112 : u2 112 = g 112 := F 112 (by decide)
  have k113 : u2 113 = g 113 := F 113 (by decide)
  have k114 : u2 114 = g 114 := F 114 (by decide)
  have k118 : u2 118 = g 118 := F 118 (by decide)
  have k121 : u2 121 = g 121 := F 121 (by decide)
  have k122 : u2 122 = g 122 := F 122 (by decide)
  have k123 : u2 123 = g 123 := F 123 (by decide)
  have k125 : u2 125 = g 125 := F 125 (by decide)
  have k126 : u2 126 = g 126 := F 126 (by decide)
  have k127 : u2 127 = g 127 := F 127 (by decide)
  have k128 : u2 128 = g 128 := F 128 (by decide)
  have k129 : u2 129 = g 129 := F 129 (by decide)
  have k130 : u2 130 = g 130 := F 130 (by decide)
  have k131 : u2 131 = g 131 := F 131 (by decide)
  have k132 : u2 132 = g 132 := F 132 (by decide)
  have k133 : u2 133 = g 133 := F 133 (by decide)
  have k134 : u2 134 = g 134 := F 134 (by decide)
  have k135 : u2 135 = g 135 := F 135 (by decide)
  have key : u2 41 = u2 102 ∧ u2 42 = u2 103 ∧ u2 43 = g 43 ∧ u2 44 = g 44 ∧ u2 101 0 = u2 1 0 ∧ u2 1 0 = u2 33 0 ∧ g 1 0 ≤ u2 1 0 ∧ u2 1 0 ≤ 6 ∧ r1.toInt = r2.toInt ∧ (∀ f, f < (u2 1 0).toNat → 1 ≤ u2 42 f ∧ u2 42 f ≤ 4) ∧ (∀ f w : Nat, f < (u2 1 0).toNat → w < 53 → u2 45 (53 * f + w) = ga_f (g 61) (g 62) (g 63) (f : Int) (w : Int) (g 4 0) (g 3 0).toNat) := by
    by_cases A : 0 ≤ p1.toInt ∧ p1.toInt ≤ 3 ∧ 1 ≤ p2.toInt ∧ p2.toInt ≤ 4 ∧ g 1 0 < 6
    · have a := c0 A; have b := m0 A; have m2' := m2.1 A
      refine ⟨by rw [k41, c2.1 A, m2'.1], by rw [k42, c3.1 A, m2'.2], ?_, ?_, by rw [k1]; omega, by rw [k1, k33]; omega, by rw [k1]; omega, by rw [k1]; omega, by omega, fun f hf => ?_, fun f w hf hw => ?_⟩
      · rw [k43, c4.1 A]; funext j; rw [fz_at]; by_cases q : 53 * (g 1 0).toNat ≤ j ∧ j < 53 * (g 1 0).toNat + 53
        · rw [if_pos q]; exact ((F5 j q.1).1 (by omega)).symm
        · rw [if_neg q]
      · rw [k44, c5.1 A]; funext j; rw [fz_at]; by_cases q : 53 * (g 1 0).toNat ≤ j ∧ j < 53 * (g 1 0).toNat + 53
        · rw [if_pos q]; exact (F5 j q.1).2.symm
        · rw [if_neg q]
      · rw [k1] at hf; rw [k42, c3.1 A]; by_cases q : f = (g 1 0).toNat
        · rw [q, pz_up_s]; omega
        · rw [pz_up_n q]; exact F6 f (by omega)
      · rw [k1] at hf; rw [k45, c6.1 A, fz_at]; by_cases q : f = (g 1 0).toNat
        · rw [if_pos (by subst q; omega), ga_none _ (fun k hk e => by have := G9 k hk; subst q; omega)]
        · rw [if_neg (by omega)]; exact hT f w (by omega) hw
    · have a := c1 A; have b := m1 A; have m2' := m2.2 A
      exact ⟨by rw [k41, c2.2 A, m2'.1], by rw [k42, c3.2 A, m2'.2], by rw [k43, c4.2 A], by rw [k44, c5.2 A], by rw [k1]; omega, by rw [k1, k33]; omega, by rw [k1]; omega, by rw [k1]; omega, by omega, fun f hf => by rw [k1] at hf; rw [k42, c3.2 A]; exact F6 f (by omega), fun f w hf hw => by rw [k1] at hf; rw [k45, c6.2 A]; exact hT f w (by omega) hw⟩
  obtain ⟨q41, q42, q43, q44, n101, n33, n1a, n1b, qr, q6, qT⟩ := key
  clear k41 k42 k43 k44 k45 k1 k33
  refine ⟨⟨?_, ?_, ?_, ?_, ?_, ?_, ?_, ?_⟩, ?_⟩
  · unfold RC; rw [k104, k2, k126, k3, k111, k4, k112, k5, k114, k6, k121, k14, k118, k18, k34, k35, k122]; exact ⟨n101, C2, C3, C4, C5, C6, C14, C18, n33, C34, C35, by omega, n1b, C2a, C2b, C3a, C3b, C5a, C5b, C4a, C6a, C6b, C22a, C22b⟩
  · exact RO_cg hO (fun c hc => F c ((show ∀ c, c ∈ ([2, 50, 51, 52, 54, 56, 105, 106, 107, 108] : List Nat) → c ∉ ([1, 33, 41, 42, 43, 44, 45, 100, 101, 102, 103] : List Nat) by decide) c hc))
  · exact ⟨q41, q42, by rw [q43, k109]; exact e43, by rw [q44, k110]; exact e44, fun j hj => by rw [q43, q44]; exact F5 j (by omega), q6, by rw [k2, q43]; exact F7, by rw [q43, k53]; exact F8⟩
  · exact ⟨by rw [k60, k127]; exact e60, by rw [k61, k128]; exact e61, by rw [k62, k129]; exact e62, by rw [k63, k130]; exact e63, by rw [k64, k131]; exact e64, by rw [k65, k132]; exact e65, by rw [k67, k133]; exact e67, by rw [k68, k134]; exact e68, fun k hk => by rw [k2, k4, k60, k61, k62, k63, k64, k68]; rw [k3] at hk; have := G9 k hk; omega⟩
  · unfold RT; rw [k3, k4, k61, k62, k63]; exact qT
  · exact RW_cg hW (fun c hc => F c ((show ∀ c, c ∈ ([3, 56, 66, 135] : List Nat) → c ∉ ([1, 33, 41, 42, 43, 44, 45, 100, 101, 102, 103] : List Nat) by decide) c hc))
  · exact RR_cg hR (fun c hc => F c ((show ∀ c, c ∈ ([11, 12, 13, 80, 81, 82, 122, 123, 125] : List Nat) → c ∉ ([1, 33, 41, 42, 43, 44, 45, 100, 101, 102, 103] : List Nat) by decide) c hc))
  · exact RS_cg hS (fun c hc => F c ((show ∀ c, c ∈ ([19, 86, 113] : List Nat) → c ∉ ([1, 33, 41, 42, 43, 44, 45, 100, 101, 102, 103] : List Nat) by decide) c hc))
  · exact qr

theorem st_year {g u1 u2 : gh} {r1 r2  : Int32} (h : RLA g) (f1 : ∀ c, c ∉ ([4, 5, 44, 45, 65] : List Nat) → u1 c = g c) (f2 : ∀ c, c ∉ ([100, 110, 111, 112, 132] : List Nat) → u2 c = u1 c)
    (c0 : r1.toInt = g 4 0 + 1)
    (c1 : u1 4 0 = g 4 0 + 1)
    (c2 : u1 5 0 = 0)
    (c3 : u1 65 = eu_f (g 65) (g 62) 52 (g 3 0).toNat)
    (c4 : u1 44 = fz (g 44) 0 0 (53 * (g 1 0).toNat))
    (c5 : u1 45 = fz (g 45) 0 (-1) (53 * (g 1 0).toNat))
    (m0 : r2.toInt = u1 111 0 + 1)
    (m1 : u2 111 0 = u1 111 0 + 1)
    (m2 : u2 112 0 = 0)
    (m3 : u2 132 = eu_f (u1 132) (u1 129) 52 (u1 126 0).toNat)
    (m4 : u2 110 = fz (u1 110) 0 0 318) : RLA u2 ∧ r1.toInt = r2.toInt := by
  obtain ⟨hC, hO, hF, hG, hT, hW, hR, hS⟩ := h
  have F : ∀ c, c ∉ ([4, 5, 44, 45, 65, 100, 110, 111, 112, 132] : List Nat) → u2 c = g c := fun c hc => by rw [f2 c (fun q => hc ((show ∀ c, c ∈ ([100, 110, 111, 112, 132] : List Nat) → c ∈ ([4, 5, 44, 45, 65, 100, 110, 111, 112, 132] : List Nat) by decide) c q)), f1 c (fun q => hc ((show ∀ c, c ∈ ([4, 5, 44, 45, 65] : List Nat) → c ∈ ([4, 5, 44, 45, 65, 100, 110, 111, 112, 132] : List Nat) by decide) c q))]
  have ⟨C1, C2, C3, C4, C5, C6, C14, C18, C33, C34, C35, C1a, C1b, C2a, C2b, C3a, C3b, C5a, C5b, C4a, C6a, C6b, C22a, C22b⟩ := hC
  have ⟨e50, e51, e52, e54, O5, O6⟩ := hO
  have ⟨e41, e42, e43, e44, F5, F6, F7, F8⟩ := hF
  have ⟨e60, e61, e62, e63, e64, e65, e67, e68, G9⟩ := hG
  rw [f1 111 (by decide), C4] at m0
  rw [f1 111 (by decide), C4] at m1
  rw [f1 132 (by decide), f1 129 (by decide), f1 126 (by decide), ← e65, ← e62, C3] at m3
  rw [f1 110 (by decide), ← e44] at m4
  have k4 : u2 4 = u1 4 := f2 4 (by decide)
  have k5 : u2 5 = u1 5 := f2 5 (by decide)
  have k44 : u2 44 = u1 44 := f2 44 (by decide)
  have k45 : u2 45 = u1 45 := f2 45 (by decide)
  have k65 : u2 65 = u1 65 := f2 65 (by decide)
  have k1 : u2 1 = g 1 := F 1 (by decide)
  have k2 : u2 2 = g 2 := F 2 (by decide)
  have k3 : u2 3 = g 3 := F 3 (by decide)
  have k6 : u2 6 = g 6 := F 6 (by decide)
  have k11 : u2 11 = g 11 := F 11 (by decide)
  have k12 : u2 12 = g 12 := F 12 (by decide)
  have k13 : u2 13 = g 13 := F 13 (by decide)
  have k14 : u2 14 = g 14 := F 14 (by decide)
  have k18 : u2 18 = g 18 := F 18 (by decide)
  have k19 : u2 19 = g 19 := F 19 (by decide)
  have k33 : u2 33 = g 33 := F 33 (by decide)
  have k34 : u2 34 = g 34 := F 34 (by decide)
  have k35 : u2 35 = g 35 := F 35 (by decide)
  have k41 : u2 41 = g 41 := F 41 (by decide)
  have k42 : u2 42 = g 42 := F 42 (by decide)
  have k43 : u2 43 = g 43 := F 43 (by decide)
  have k50 : u2 50 = g 50 := F 50 (by decide)
  have k51 : u2 51 = g 51 := F 51 (by decide)
  have k52 : u2 52 = g 52 := F 52 (by decide)
  have k53 : u2 53 = g 53 := F 53 (by decide)
  have k54 : u2 54 = g 54 := F 54 (by decide)
  have k56 : u2 56 = g 56 := F 56 (by decide)
  have k60 : u2 60 = g 60 := F 60 (by decide)
  have k61 : u2 61 = g 61 := F 61 (by decide)
  have k62 : u2 62 = g 62 := F 62 (by decide)
  have k63 : u2 63 = g 63 := F 63 (by decide)
  have k64 : u2 64 = g 64 := F 64 (by decide)
  have k66 : u2 66 = g 66 := F 66 (by decide)
  have k67 : u2 67 = g 67 := F 67 (by decide)
  have k68 : u2 68 = g 68 := F 68 (by decide)
  have k80 : u2 80 = g 80 := F 80 (by decide)
  have k81 : u2 81 = g 81 := F 81 (by decide)
  have k82 : u2 82 = g 82 := F 82 (by decide)
  have k86 : u2 86 = g 86 := F 86 (by decide)
  have k101 : u2 101 = g 101 := F 101 (by decide)
  have k102 : u2 102 = g 102 := F 102 (by decide)
  have k103 : u2 103 = g 103 := F 103 (by decide)
  have k104 : u2 104 = g 104 := F 104 (by decide)
  have k105 : u2 105 = g 105 := F 105 (by decide)
  have k106 : u2 106 = g 106 := F 106 (by decide)
  have k107 : u2 107 = g 107 := F 107 (by decide)
  have k108 : u2 108 = g 108 := F 108 (by decide)
  have k109 : u2 109 = g 109 := F 109 (by decide)
  have k113 : u2 113 = g 113 := F 113 (by decide)
  have k114 : u2 114 = g 114 := F 114 (by decide)
  have k118 : u2 118 = g 118 := F 118 (by decide)
  have k121 : u2 121 = g 121 := F 121 (by decide)
  have k122 : u2 122 = g 122 := F 122 (by decide)
  have k123 : u2 123 = g 123 := F 123 (by decide)
  have k125 : u2 125 = g 125 := F 125 (by decide)
  have k126 : u2 126 = g 126 := F 126 (by decide)
  have k127 : u2 127 = g 127 := F 127 (by decide)
  have k128 : u2 128 = g 128 := F 128 (by decide)
  have k129 : u2 129 = g 129 := F 129 (by decide)
  have k130 : u2 130 = g 130 := F 130 (by decide)
  have k131 : u2 131 = g 131 := F 131 (by decide)
  have k133 : u2 133 = g 133 := F 133 (by decide)
  have k134 : u2 134 = g 134 := F 134 (by decide)
  have k135 : u2 135 = g 135 := F 135 (by decide)
  have q65 : u2 65 = u2 132 := by rw [k65, c3, m3]
  have q44 : u2 44 = u2 110 := by
    rw [k44, c4, m4]; funext j; rw [fz_at, fz_at]
    by_cases a : j < 53 * (g 1 0).toNat
    · rw [if_pos (by omega), if_pos (by omega)]
    · rw [if_neg (by omega)]
      by_cases b : j < 318
      · rw [if_pos (by omega)]; exact (F5 j (by omega)).2
      · rw [if_neg (by omega)]
  have q5 : ∀ j, 53 * (g 1 0).toNat ≤ j → u2 44 j = 0 := fun j hj => by rw [k44, c4, fz_at, if_neg (by omega)]; exact (F5 j hj).2
  have q45 : ∀ f w : Nat, f < (g 1 0).toNat → w < 53 → u2 45 (53 * f + w) = ga_f (g 61) (g 62) (g 63) (f : Int) (w : Int) (u2 4 0) (g 3 0).toNat := fun f w hf hw => by rw [k45, c5, fz_at, if_pos (by omega), k4, ga_none _ (fun k hk e => by have := G9 k hk; omega)]
  refine ⟨⟨?_, ?_, ?_, ?_, ?_, ?_, ?_, ?_⟩, ?_⟩
  · unfold RC; rw [k101, k1, k104, k2, k126, k3, k114, k6, k121, k14, k118, k18, k33, k34, k35, k122, k4, k5]; exact ⟨C1, C2, C3, by omega, by omega, C6, C14, C18, C33, C34, C35, C1a, C1b, C2a, C2b, C3a, C3b, by omega, by omega, by omega, C6a, C6b, C22a, C22b⟩
  · exact RO_cg hO (fun c hc => F c ((show ∀ c, c ∈ ([2, 50, 51, 52, 54, 56, 105, 106, 107, 108] : List Nat) → c ∉ ([4, 5, 44, 45, 65, 100, 110, 111, 112, 132] : List Nat) by decide) c hc))
  · exact ⟨by rw [k41, k102]; exact e41, by rw [k42, k103]; exact e42, by rw [k43, k109]; exact e43, q44, fun j hj => by rw [k1] at hj; rw [k43]; exact ⟨(F5 j hj).1, q5 j hj⟩, by rw [k1, k42]; exact F6, by rw [k2, k43]; exact F7, by rw [k43, k53]; exact F8⟩
  · exact ⟨by rw [k60, k127]; exact e60, by rw [k61, k128]; exact e61, by rw [k62, k129]; exact e62, by rw [k63, k130]; exact e63, by rw [k64, k131]; exact e64, q65, by rw [k67, k133]; exact e67, by rw [k68, k134]; exact e68, fun k hk => by rw [k3] at hk; rw [k1, k2, k60, k61, k62, k63, k64, k4, k68]; have := G9 k hk; omega⟩
  · unfold RT; rw [k1, k3, k61, k62, k63]; exact q45
  · exact RW_cg hW (fun c hc => F c ((show ∀ c, c ∈ ([3, 56, 66, 135] : List Nat) → c ∉ ([4, 5, 44, 45, 65, 100, 110, 111, 112, 132] : List Nat) by decide) c hc))
  · exact RR_cg hR (fun c hc => F c ((show ∀ c, c ∈ ([11, 12, 13, 80, 81, 82, 122, 123, 125] : List Nat) → c ∉ ([4, 5, 44, 45, 65, 100, 110, 111, 112, 132] : List Nat) by decide) c hc))
  · exact RS_cg hS (fun c hc => F c ((show ∀ c, c ∈ ([19, 86, 113] : List Nat) → c ∉ ([4, 5, 44, 45, 65, 100, 110, 111, 112, 132] : List Nat) by decide) c hc))
  · omega

theorem st_own {g u1 u2 : gh} {r1 r2 p1 p2 p3 : Int32} (h : RLA g) (f1 : ∀ c, c ∉ ([43, 53] : List Nat) → u1 c = g c) (f2 : ∀ c, c ∉ ([100, 109] : List Nat) → u2 c = u1 c)
    (c0 : (ok_own (g 1 0) (g 2 0) (g 54) (g 45 (53 * p1.toInt.toNat + p2.toInt.toNat)) (g 65) p1.toInt p2.toInt p3.toInt → r1.toInt = 1 ∧ u1 43 = pz_up (g 43) (53 * p1.toInt.toNat + p2.toInt.toNat) p3.toInt ∧ u1 53 = pa_w (g 53) ((g 43) (53 * p1.toInt.toNat + p2.toInt.toNat)) p3.toInt) ∧ (¬ (ok_own (g 1 0) (g 2 0) (g 54) (g 45 (53 * p1.toInt.toNat + p2.toInt.toNat)) (g 65) p1.toInt p2.toInt p3.toInt) → r1.toInt = 0 ∧ u1 43 = g 43 ∧ u1 53 = g 53))
    (m0 : (ok_own (u1 101 0) (u1 104 0) (u1 108) (ga_f (u1 128) (u1 129) (u1 130) p1.toInt p2.toInt (u1 111 0) (u1 126 0).toNat) (u1 132) p1.toInt p2.toInt p3.toInt → r2.toInt = 1 ∧ u2 109 = pz_up (u1 109) (53 * p1.toInt.toNat + p2.toInt.toNat) p3.toInt) ∧ (¬ (ok_own (u1 101 0) (u1 104 0) (u1 108) (ga_f (u1 128) (u1 129) (u1 130) p1.toInt p2.toInt (u1 111 0) (u1 126 0).toNat) (u1 132) p1.toInt p2.toInt p3.toInt) → r2.toInt = 0 ∧ u2 109 = u1 109)) : RLA u2 ∧ r1.toInt = r2.toInt := by
  obtain ⟨hC, hO, hF, hG, hT, hW, hR, hS⟩ := h
  have F : ∀ c, c ∉ ([43, 53, 100, 109] : List Nat) → u2 c = g c := fun c hc => by rw [f2 c (fun q => hc ((show ∀ c, c ∈ ([100, 109] : List Nat) → c ∈ ([43, 53, 100, 109] : List Nat) by decide) c q)), f1 c (fun q => hc ((show ∀ c, c ∈ ([43, 53] : List Nat) → c ∈ ([43, 53, 100, 109] : List Nat) by decide) c q))]
  have ⟨C1, C2, C3, C4, C5, C6, C14, C18, C33, C34, C35, C1a, C1b, C2a, C2b, C3a, C3b, C5a, C5b, C4a, C6a, C6b, C22a, C22b⟩ := hC
  have ⟨e50, e51, e52, e54, O5, O6⟩ := hO
  have ⟨e41, e42, e43, e44, F5, F6, F7, F8⟩ := hF
  have ⟨e60, e61, e62, e63, e64, e65, e67, e68, G9⟩ := hG
  rw [f1 101 (by decide), f1 104 (by decide), f1 108 (by decide), f1 128 (by decide), f1 129 (by decide), f1 130 (by decide), f1 111 (by decide), f1 126 (by decide), f1 132 (by decide), f1 109 (by decide), ← e54, ← e61, ← e62, ← e63, ← e65, ← e43, C1, C2, C4, C3] at m0
  have k43 : u2 43 = u1 43 := f2 43 (by decide)
  have k53 : u2 53 = u1 53 := f2 53 (by decide)
  have k1 : u2 1 = g 1 := F 1 (by decide)
  have k2 : u2 2 = g 2 := F 2 (by decide)
  have k3 : u2 3 = g 3 := F 3 (by decide)
  have k4 : u2 4 = g 4 := F 4 (by decide)
  have k5 : u2 5 = g 5 := F 5 (by decide)
  have k6 : u2 6 = g 6 := F 6 (by decide)
  have k11 : u2 11 = g 11 := F 11 (by decide)
  have k12 : u2 12 = g 12 := F 12 (by decide)
  have k13 : u2 13 = g 13 := F 13 (by decide)
  have k14 : u2 14 = g 14 := F 14 (by decide)
  have k18 : u2 18 = g 18 := F 18 (by decide)
  have k19 : u2 19 = g 19 := F 19 (by decide)
  have k33 : u2 33 = g 33 := F 33 (by decide)
  have k34 : u2 34 = g 34 := F 34 (by decide)
  have k35 : u2 35 = g 35 := F 35 (by decide)
  have k41 : u2 41 = g 41 := F 41 (by decide)
  have k42 : u2 42 = g 42 := F 42 (by decide)
  have k44 : u2 44 = g 44 := F 44 (by decide)
  have k45 : u2 45 = g 45 := F 45 (by decide)
  have k50 : u2 50 = g 50 := F 50 (by decide)
  have k51 : u2 51 = g 51 := F 51 (by decide)
  have k52 : u2 52 = g 52 := F 52 (by decide)
  have k54 : u2 54 = g 54 := F 54 (by decide)
  have k56 : u2 56 = g 56 := F 56 (by decide)
  have k60 : u2 60 = g 60 := F 60 (by decide)
  have k61 : u2 61 = g 61 := F 61 (by decide)
  have k62 : u2 62 = g 62 := F 62 (by decide)
  have k63 : u2 63 = g 63 := F 63 (by decide)
  have k64 : u2 64 = g 64 := F 64 (by decide)
  have k65 : u2 65 = g 65 := F 65 (by decide)
  have k66 : u2 66 = g 66 := F 66 (by decide)
  have k67 : u2 67 = g 67 := F 67 (by decide)
  have k68 : u2 68 = g 68 := F 68 (by decide)
  have k80 : u2 80 = g 80 := F 80 (by decide)
  have k81 : u2 81 = g 81 := F 81 (by decide)
  have k82 : u2 82 = g 82 := F 82 (by decide)
  have k86 : u2 86 = g 86 := F 86 (by decide)
  have k101 : u2 101 = g 101 := F 101 (by decide)
  have k102 : u2 102 = g 102 := F 102 (by decide)
  have k103 : u2 103 = g 103 := F 103 (by decide)
  have k104 : u2 104 = g 104 := F 104 (by decide)
  have k105 : u2 105 = g 105 := F 105 (by decide)
  have k106 : u2 106 = g 106 := F 106 (by decide)
  have k107 : u2 107 = g 107 := F 107 (by decide)
  have k108 : u2 108 = g 108 := F 108 (by decide)
  have k110 : u2 110 = g 110 := F 110 (by decide)
  have k111 : u2 111 = g 111 := F 111 (by decide)
  have k112 : u2 112 = g 112 := F 112 (by decide)
  have k113 : u2 113 = g 113 := F 113 (by decide)
  have k114 : u2 114 = g 114 := F 114 (by decide)
  have k118 : u2 118 = g 118 := F 118 (by decide)
  have k121 : u2 121 = g 121 := F 121 (by decide)
  have k122 : u2 122 = g 122 := F 122 (by decide)
  have k123 : u2 123 = g 123 := F 123 (by decide)
  have k125 : u2 125 = g 125 := F 125 (by decide)
  have k126 : u2 126 = g 126 := F 126 (by decide)
  have k127 : u2 127 = g 127 := F 127 (by decide)
  have k128 : u2 128 = g 128 := F 128 (by decide)
  have k129 : u2 129 = g 129 := F 129 (by decide)
  have k130 : u2 130 = g 130 := F 130 (by decide)
  have k131 : u2 131 = g 131 := F 131 (by decide)
  have k132 : u2 132 = g 132 := F 132 (by decide)
  have k133 : u2 133 = g 133 := F 133 (by decide)
  have k134 : u2 134 = g 134 := F 134 (by decide)
  have k135 : u2 135 = g 135 := F 135 (by decide)
  have zz : 0 ≤ p1.toInt → p1.toInt < g 1 0 → 0 ≤ p2.toInt → p2.toInt ≤ 52 → g 45 (53 * p1.toInt.toNat + p2.toInt.toNat) = ga_f (g 61) (g 62) (g 63) p1.toInt p2.toInt (g 4 0) (g 3 0).toNat := fun x1 x2 x3 x4 => by
    have q := hT p1.toInt.toNat p2.toInt.toNat (by omega) (by omega)
    rw [show ((p1.toInt.toNat : Nat) : Int) = p1.toInt by omega, show ((p2.toInt.toNat : Nat) : Int) = p2.toInt by omega] at q
    exact q
  have iff9 : ok_own (g 1 0) (g 2 0) (g 54) (g 45 (53 * p1.toInt.toNat + p2.toInt.toNat)) (g 65) p1.toInt p2.toInt p3.toInt ↔ ok_own (g 1 0) (g 2 0) (g 54) (ga_f (g 61) (g 62) (g 63) p1.toInt p2.toInt (g 4 0) (g 3 0).toNat) (g 65) p1.toInt p2.toInt p3.toInt := by
    unfold ok_own
    exact ⟨fun q => by rw [← zz q.1 q.2.1 q.2.2.1 q.2.2.2.1]; exact q, fun q => by rw [zz q.1 q.2.1 q.2.2.1 q.2.2.2.1]; exact q⟩
  have key : u2 43 = u2 109 ∧ OW (u2 43) (u2 53) ∧ (∀ j, 53 * (g 1 0).toNat ≤ j → j < 318 → u2 43 j = -1) ∧ (∀ j, j < 318 → -1 ≤ u2 43 j ∧ u2 43 j < g 2 0) ∧ r1.toInt = r2.toInt := by
    by_cases A : ok_own (g 1 0) (g 2 0) (g 54) (g 45 (53 * p1.toInt.toNat + p2.toInt.toNat)) (g 65) p1.toInt p2.toInt p3.toInt
    · obtain ⟨a1, a2, a3⟩ := c0.1 A
      obtain ⟨b1, b2⟩ := m0.1 (iff9.mp A)
      have A' := A
      unfold ok_own at A'
      refine ⟨by rw [k43, a2, b2], ?_, fun j h1 h2 => ?_, fun j hj => ?_, by rw [a1, b1]⟩
      · rw [k43, k53, a2, a3]; exact OW_pass F8 (by omega) (F7 _ (by omega)).1 (by omega)
      · rw [k43, a2, pz_up_n (by omega)]; exact (F5 j h1).1 h2
      · rw [k43, a2]; by_cases e : j = 53 * p1.toInt.toNat + p2.toInt.toNat
        · rw [e, pz_up_s]; omega
        · rw [pz_up_n e]; exact F7 j hj
    · obtain ⟨a1, a2, a3⟩ := c0.2 A
      obtain ⟨b1, b2⟩ := m0.2 (fun q => A (iff9.mpr q))
      rw [k43, k53, a2, a3, b2]
      exact ⟨rfl, F8, fun j h1 h2 => (F5 j h1).1 h2, F7, by rw [a1, b1]⟩
  obtain ⟨q43, qOW, q5, q7, qr⟩ := key
  refine ⟨⟨?_, ?_, ?_, ?_, ?_, ?_, ?_, ?_⟩, ?_⟩
  · exact RC_cg hC (fun c hc => F c ((show ∀ c, c ∈ ([1, 2, 3, 4, 5, 6, 14, 18, 33, 34, 35, 101, 104, 111, 112, 114, 118, 121, 122, 126] : List Nat) → c ∉ ([43, 53, 100, 109] : List Nat) by decide) c hc))
  · exact RO_cg hO (fun c hc => F c ((show ∀ c, c ∈ ([2, 50, 51, 52, 54, 56, 105, 106, 107, 108] : List Nat) → c ∉ ([43, 53, 100, 109] : List Nat) by decide) c hc))
  · exact ⟨by rw [k41, k102]; exact e41, by rw [k42, k103]; exact e42, q43, by rw [k44, k110]; exact e44, fun j hj => by rw [k1] at hj; rw [k44]; exact ⟨q5 j hj, (F5 j hj).2⟩, by rw [k1, k42]; exact F6, by rw [k2]; exact q7, qOW⟩
  · exact RG_cg hG (fun c hc => F c ((show ∀ c, c ∈ ([1, 2, 3, 4, 60, 61, 62, 63, 64, 65, 67, 68, 127, 128, 129, 130, 131, 132, 133, 134] : List Nat) → c ∉ ([43, 53, 100, 109] : List Nat) by decide) c hc))
  · exact RT_cg hT (fun c hc => F c ((show ∀ c, c ∈ ([1, 3, 4, 45, 61, 62, 63] : List Nat) → c ∉ ([43, 53, 100, 109] : List Nat) by decide) c hc))
  · exact RW_cg hW (fun c hc => F c ((show ∀ c, c ∈ ([3, 56, 66, 135] : List Nat) → c ∉ ([43, 53, 100, 109] : List Nat) by decide) c hc))
  · exact RR_cg hR (fun c hc => F c ((show ∀ c, c ∈ ([11, 12, 13, 80, 81, 82, 122, 123, 125] : List Nat) → c ∉ ([43, 53, 100, 109] : List Nat) by decide) c hc))
  · exact RS_cg hS (fun c hc => F c ((show ∀ c, c ∈ ([19, 86, 113] : List Nat) → c ∉ ([43, 53, 100, 109] : List Nat) by decide) c hc))
  · exact qr

theorem sh_off {ow bq wo fl we ye p s : Nat → Int} {f a b y oc : Int} {m : Nat} (hm : oc ≤ (m : Int)) : ∀ K, (∀ k, k < K → 0 ≤ ow k ∧ ow k < oc ∧ bq k < oc) → (sh_f ow bq wo fl we ye f a b y p s K).1 m = p m := by
  intro K
  induction K with
  | zero => exact fun _ => rfl
  | succ K ih =>
    intro h
    have i := ih (fun k hk => h k (by omega))
    have q := h K (by omega)
    by_cases c : fl K = f ∧ a ≤ we K ∧ we K ≤ b ∧ ye K = y ∧ 0 ≤ (sh_f ow bq wo fl we ye f a b y p s K).2.1 K ∧ (sh_f ow bq wo fl we ye f a b y p s K).2.1 K ≤ 3
    · rw [sh_y c]
      show es_p _ _ _ _ _ _ m = _
      unfold es_p
      split
      · split
        · exact i
        · rw [pz_up_n (by omega)]; exact i
      · split
        · rw [pz_up_n (by omega)]; exact i
        · exact i
    · show (if _ then _ else _ : (Nat → Int) × (Nat → Int) × Int).1 m = _
      rw [if_neg c]; exact i
theorem pr_ext {r : Nat → Int} {a b : Int} {n m : Nat} (hn : n ≤ m) (h : ∀ j, n ≤ j → j < m → r j ≠ a) : pr_f r a b n = pr_f r a b m := by
  funext j
  unfold pr_f
  by_cases c : j < n ∧ r j = a
  · rw [if_pos c, if_pos ⟨by omega, c.2⟩]
  · rw [if_neg c, if_neg (fun q => by
      by_cases d : j < n
      · exact c ⟨d, q.2⟩
      · exact h j (by omega) q.1 q.2)]

theorem st_shut {g u1 u2 : gh} {r1 r2 p1 p2 p3 : Int32} (h : RLA g) (f1 : ∀ c, c ∉ ([44, 51, 65] : List Nat) → u1 c = g c) (f2 : ∀ c, c ∉ ([100, 106, 110, 132] : List Nat) → u2 c = u1 c)
    (c0 : ((0 ≤ p1.toInt ∧ p1.toInt < g 1 0 ∧ g 5 0 ≤ p2.toInt ∧ p2.toInt ≤ p3.toInt ∧ p3.toInt ≤ 52) → r1.toInt = (sh_f (g 60) (g 68) (g 64) (g 61) (g 62) (g 63) p1.toInt p2.toInt p3.toInt (g 4 0) (g 51) (g 65) (g 3 0).toNat).2.2 ∧ u1 44 = fz (g 44) (53 * p1.toInt.toNat + p2.toInt.toNat) 1 (p3.toInt - p2.toInt + 1).toNat ∧ u1 51 = (sh_f (g 60) (g 68) (g 64) (g 61) (g 62) (g 63) p1.toInt p2.toInt p3.toInt (g 4 0) (g 51) (g 65) (g 3 0).toNat).1 ∧ u1 65 = (sh_f (g 60) (g 68) (g 64) (g 61) (g 62) (g 63) p1.toInt p2.toInt p3.toInt (g 4 0) (g 51) (g 65) (g 3 0).toNat).2.1) ∧ (¬ ((0 ≤ p1.toInt ∧ p1.toInt < g 1 0 ∧ g 5 0 ≤ p2.toInt ∧ p2.toInt ≤ p3.toInt ∧ p3.toInt ≤ 52)) → r1.toInt = -1 ∧ u1 44 = g 44 ∧ u1 51 = g 51 ∧ u1 65 = g 65))
    (m0 : ((0 ≤ p1.toInt ∧ p1.toInt < u1 101 0 ∧ u1 112 0 ≤ p2.toInt ∧ p2.toInt ≤ p3.toInt ∧ p3.toInt ≤ 52) → r2.toInt = (sh_f (u1 127) (u1 134) (u1 131) (u1 128) (u1 129) (u1 130) p1.toInt p2.toInt p3.toInt (u1 111 0) (u1 106) (u1 132) (u1 126 0).toNat).2.2 ∧ u2 110 = fz (u1 110) (53 * p1.toInt.toNat + p2.toInt.toNat) 1 (p3.toInt - p2.toInt + 1).toNat ∧ u2 106 = (sh_f (u1 127) (u1 134) (u1 131) (u1 128) (u1 129) (u1 130) p1.toInt p2.toInt p3.toInt (u1 111 0) (u1 106) (u1 132) (u1 126 0).toNat).1 ∧ u2 132 = (sh_f (u1 127) (u1 134) (u1 131) (u1 128) (u1 129) (u1 130) p1.toInt p2.toInt p3.toInt (u1 111 0) (u1 106) (u1 132) (u1 126 0).toNat).2.1) ∧ (¬ ((0 ≤ p1.toInt ∧ p1.toInt < u1 101 0 ∧ u1 112 0 ≤ p2.toInt ∧ p2.toInt ≤ p3.toInt ∧ p3.toInt ≤ 52)) → r2.toInt = -1 ∧ u2 110 = u1 110 ∧ u2 106 = u1 106 ∧ u2 132 = u1 132)) : RLA u2 ∧ r1.toInt = r2.toInt := by
  obtain ⟨hC, hO, hF, hG, hT, hW, hR, hS⟩ := h
  have F : ∀ c, c ∉ ([44, 51, 65, 100, 106, 110, 132] : List Nat) → u2 c = g c := fun c hc => by rw [f2 c (fun q => hc ((show ∀ c, c ∈ ([100, 106, 110, 132] : List Nat) → c ∈ ([44, 51, 65, 100, 106, 110, 132] : List Nat) by decide) c q)), f1 c (fun q => hc ((show ∀ c, c ∈ ([44, 51, 65] : List Nat) → c ∈ ([44, 51, 65, 100, 106, 110, 132] : List Nat) by decide) c q))]
  have ⟨C1, C2, C3, C4, C5, C6, C14, C18, C33, C34, C35, C1a, C1b, C2a, C2b, C3a, C3b, C5a, C5b, C4a, C6a, C6b, C22a, C22b⟩ := hC
  have ⟨e50, e51, e52, e54, O5, O6⟩ := hO
  have ⟨e41, e42, e43, e44, F5, F6, F7, F8⟩ := hF
  have ⟨e60, e61, e62, e63, e64, e65, e67, e68, G9⟩ := hG
  rw [f1 101 (by decide), f1 112 (by decide), f1 127 (by decide), f1 134 (by decide), f1 131 (by decide), f1 128 (by decide), f1 129 (by decide), f1 130 (by decide), f1 111 (by decide), f1 106 (by decide), f1 132 (by decide), f1 126 (by decide), f1 110 (by decide), ← e60, ← e68, ← e64, ← e61, ← e62, ← e63, ← e51, ← e65, ← e44, C1, C5, C4, C3] at m0
  have k44 : u2 44 = u1 44 := f2 44 (by decide)
  have k51 : u2 51 = u1 51 := f2 51 (by decide)
  have k65 : u2 65 = u1 65 := f2 65 (by decide)
  have k1 : u2 1 = g 1 := F 1 (by decide)
  have k2 : u2 2 = g 2 := F 2 (by decide)
  have k3 : u2 3 = g 3 := F 3 (by decide)
  have k4 : u2 4 = g 4 := F 4 (by decide)
  have k5 : u2 5 = g 5 := F 5 (by decide)
  have k6 : u2 6 = g 6 := F 6 (by decide)
  have k11 : u2 11 = g 11 := F 11 (by decide)
  have k12 : u2 12 = g 12 := F 12 (by decide)
  have k13 : u2 13 = g 13 := F 13 (by decide)
  have k14 : u2 14 = g 14 := F 14 (by decide)
  have k18 : u2 18 = g 18 := F 18 (by decide)
  have k19 : u2 19 = g 19 := F 19 (by decide)
  have k33 : u2 33 = g 33 := F 33 (by decide)
  have k34 : u2 34 = g 34 := F 34 (by decide)
  have k35 : u2 35 = g 35 := F 35 (by decide)
  have k41 : u2 41 = g 41 := F 41 (by decide)
  have k42 : u2 42 = g 42 := F 42 (by decide)
  have k43 : u2 43 = g 43 := F 43 (by decide)
  have k45 : u2 45 = g 45 := F 45 (by decide)
  have k50 : u2 50 = g 50 := F 50 (by decide)
  have k52 : u2 52 = g 52 := F 52 (by decide)
  have k53 : u2 53 = g 53 := F 53 (by decide)
  have k54 : u2 54 = g 54 := F 54 (by decide)
  have k56 : u2 56 = g 56 := F 56 (by decide)
  have k60 : u2 60 = g 60 := F 60 (by decide)
  have k61 : u2 61 = g 61 := F 61 (by decide)
  have k62 : u2 62 = g 62 := F 62 (by decide)
  have k63 : u2 63 = g 63 := F 63 (by decide)
  have k64 : u2 64 = g 64 := F 64 (by decide)
  have k66 : u2 66 = g 66 := F 66 (by decide)
  have k67 : u2 67 = g 67 := F 67 (by decide)
  have k68 : u2 68 = g 68 := F 68 (by decide)
  have k80 : u2 80 = g 80 := F 80 (by decide)
  have k81 : u2 81 = g 81 := F 81 (by decide)
  have k82 : u2 82 = g 82 := F 82 (by decide)
  have k86 : u2 86 = g 86 := F 86 (by decide)
  have k101 : u2 101 = g 101 := F 101 (by decide)
  have k102 : u2 102 = g 102 := F 102 (by decide)
  have k103 : u2 103 = g 103 := F 103 (by decide)
  have k104 : u2 104 = g 104 := F 104 (by decide)
  have k105 : u2 105 = g 105 := F 105 (by decide)
  have k107 : u2 107 = g 107 := F 107 (by decide)
  have k108 : u2 108 = g 108 := F 108 (by decide)
  have k109 : u2 109 = g 109 := F 109 (by decide)
  have k111 : u2 111 = g 111 := F 111 (by decide)
  have k112 : u2 112 = g 112 := F 112 (by decide)
  have k113 : u2 113 = g 113 := F 113 (by decide)
  have k114 : u2 114 = g 114 := F 114 (by decide)
  have k118 : u2 118 = g 118 := F 118 (by decide)
  have k121 : u2 121 = g 121 := F 121 (by decide)
  have k122 : u2 122 = g 122 := F 122 (by decide)
  have k123 : u2 123 = g 123 := F 123 (by decide)
  have k125 : u2 125 = g 125 := F 125 (by decide)
  have k126 : u2 126 = g 126 := F 126 (by decide)
  have k127 : u2 127 = g 127 := F 127 (by decide)
  have k128 : u2 128 = g 128 := F 128 (by decide)
  have k129 : u2 129 = g 129 := F 129 (by decide)
  have k130 : u2 130 = g 130 := F 130 (by decide)
  have k131 : u2 131 = g 131 := F 131 (by decide)
  have k133 : u2 133 = g 133 := F 133 (by decide)
  have k134 : u2 134 = g 134 := F 134 (by decide)
  have k135 : u2 135 = g 135 := F 135 (by decide)
  have key : u2 44 = u2 110 ∧ u2 51 = u2 106 ∧ u2 65 = u2 132 ∧ r1.toInt = r2.toInt ∧ (∀ n, (g 2 0).toNat ≤ n → u2 51 n = 0) ∧ (∀ j, 53 * (g 1 0).toNat ≤ j → u2 44 j = 0) := by
    by_cases A : (0 ≤ p1.toInt ∧ p1.toInt < g 1 0 ∧ g 5 0 ≤ p2.toInt ∧ p2.toInt ≤ p3.toInt ∧ p3.toInt ≤ 52)
    · obtain ⟨a1, a2, a3, a4⟩ := c0.1 A
      obtain ⟨b1, b2, b3, b4⟩ := m0.1 A
      refine ⟨by rw [k44, a2, b2], by rw [k51, a3, b3], by rw [k65, a4, b4], by rw [a1, b1], fun n hn => ?_, fun j hj => ?_⟩
      · rw [k51, a3, sh_off (oc := g 2 0) (by omega) _ (fun k hk => by have := G9 k hk; omega)]; exact (O5 n hn).1
      · rw [k44, a2, fz_at, if_neg (by omega)]; exact (F5 j hj).2
    · obtain ⟨a1, a2, a3, a4⟩ := c0.2 A
      obtain ⟨b1, b2, b3, b4⟩ := m0.2 A
      exact ⟨by rw [k44, a2, b2], by rw [k51, a3, b3], by rw [k65, a4, b4], by rw [a1, b1], fun n hn => by rw [k51, a3]; exact (O5 n hn).1, fun j hj => by rw [k44, a2]; exact (F5 j hj).2⟩
  obtain ⟨q44, q51, q65, qr, q5, qf⟩ := key
  refine ⟨⟨?_, ?_, ?_, ?_, ?_, ?_, ?_, ?_⟩, ?_⟩
  · exact RC_cg hC (fun c hc => F c ((show ∀ c, c ∈ ([1, 2, 3, 4, 5, 6, 14, 18, 33, 34, 35, 101, 104, 111, 112, 114, 118, 121, 122, 126] : List Nat) → c ∉ ([44, 51, 65, 100, 106, 110, 132] : List Nat) by decide) c hc))
  · exact ⟨by rw [k50, k105]; exact e50, q51, by rw [k52, k107]; exact e52, by rw [k54, k108]; exact e54, fun n hn => by rw [k2] at hn; exact ⟨q5 n hn, by rw [k52, k54, k56]; exact (O5 n hn).2⟩, by rw [k54, k56]; exact O6⟩
  · exact ⟨by rw [k41, k102]; exact e41, by rw [k42, k103]; exact e42, by rw [k43, k109]; exact e43, q44, fun j hj => by rw [k1] at hj; rw [k43]; exact ⟨(F5 j hj).1, qf j hj⟩, by rw [k1, k42]; exact F6, by rw [k2, k43]; exact F7, by rw [k43, k53]; exact F8⟩
  · exact ⟨by rw [k60, k127]; exact e60, by rw [k61, k128]; exact e61, by rw [k62, k129]; exact e62, by rw [k63, k130]; exact e63, by rw [k64, k131]; exact e64, q65, by rw [k67, k133]; exact e67, by rw [k68, k134]; exact e68, by rw [k1, k2, k3, k4, k60, k61, k62, k63, k64, k68]; exact G9⟩
  · exact RT_cg hT (fun c hc => F c ((show ∀ c, c ∈ ([1, 3, 4, 45, 61, 62, 63] : List Nat) → c ∉ ([44, 51, 65, 100, 106, 110, 132] : List Nat) by decide) c hc))
  · exact RW_cg hW (fun c hc => F c ((show ∀ c, c ∈ ([3, 56, 66, 135] : List Nat) → c ∉ ([44, 51, 65, 100, 106, 110, 132] : List Nat) by decide) c hc))
  · exact RR_cg hR (fun c hc => F c ((show ∀ c, c ∈ ([11, 12, 13, 80, 81, 82, 122, 123, 125] : List Nat) → c ∉ ([44, 51, 65, 100, 106, 110, 132] : List Nat) by decide) c hc))
  · exact RS_cg hS (fun c hc => F c ((show ∀ c, c ∈ ([19, 86, 113] : List Nat) → c ∉ ([44, 51, 65, 100, 106, 110, 132] : List Nat) by decide) c hc))
  · exact qr

theorem st_dies {g u1 u2 : gh} {r1 r2 p1 p2 p3 : Int32} (h : RLA g) (f1 : ∀ c, c ∉ ([43, 51, 53, 54, 56, 65] : List Nat) → u1 c = g c) (f2 : ∀ c, c ∉ ([100, 106, 108, 109, 132, 135] : List Nat) → u2 c = u1 c)
    (c0 : ((0 ≤ p1.toInt ∧ p1.toInt < g 2 0 ∧ g 54 p1.toInt.toNat = 0 ∧ 0 ≤ p2.toInt ∧ p2.toInt < g 2 0 ∧ g 54 p2.toInt.toNat = 0 ∧ p1.toInt ≠ p2.toInt) → r1.toInt = (if g 11 (g 13 0).toNat ≠ 0 ∨ p3.toInt ≠ 0 then g 53 p1.toInt.toNat else 0) ∧ u1 54 = pz_up (g 54) p1.toInt.toNat 1 ∧ u1 56 = pz_up (g 56) p1.toInt.toNat (-1) ∧ u1 65 = dy_f (g 65) (g 60) p1.toInt (g 3 0).toNat ∧ u1 43 = (if g 11 (g 13 0).toNat ≠ 0 ∨ p3.toInt ≠ 0 then pr_f (g 43) p1.toInt p2.toInt (53 * (g 1 0).toNat) else pr_f (g 43) p1.toInt (-1) (53 * (g 1 0).toNat)) ∧ u1 51 = (if g 11 (g 13 0).toNat ≠ 0 ∨ p3.toInt ≠ 0 then pz_up (pz_up (g 51) p2.toInt.toNat (wa (g 51 p2.toInt.toNat) (g 51 p1.toInt.toNat))) p1.toInt.toNat 0 else pz_up (g 51) p1.toInt.toNat 0)) ∧ (¬ ((0 ≤ p1.toInt ∧ p1.toInt < g 2 0 ∧ g 54 p1.toInt.toNat = 0 ∧ 0 ≤ p2.toInt ∧ p2.toInt < g 2 0 ∧ g 54 p2.toInt.toNat = 0 ∧ p1.toInt ≠ p2.toInt)) → r1.toInt = -1 ∧ u1 54 = g 54 ∧ u1 56 = g 56 ∧ u1 65 = g 65 ∧ u1 43 = g 43 ∧ u1 51 = g 51))
    (c1 : OW (u1 43) (u1 53))
    (m0 : ((0 ≤ p1.toInt ∧ p1.toInt < u1 104 0 ∧ u1 108 p1.toInt.toNat = 0 ∧ 0 ≤ p2.toInt ∧ p2.toInt < u1 104 0 ∧ u1 108 p2.toInt.toNat = 0 ∧ p1.toInt ≠ p2.toInt) → r2.toInt = (if hb_f (u1 123) (u1 122 0).toNat ≠ 0 ∨ p3.toInt ≠ 0 then (cnt 318 (u1 109) p1.toInt : Int) else 0) ∧ u2 108 = pz_up (u1 108) p1.toInt.toNat 1 ∧ u2 135 = pz_up (u1 135) (4 * (200 + p1.toInt.toNat) + 3) 0 ∧ u2 132 = dy_f (u1 132) (u1 127) p1.toInt (u1 126 0).toNat ∧ u2 109 = (if hb_f (u1 123) (u1 122 0).toNat ≠ 0 ∨ p3.toInt ≠ 0 then pr_f (u1 109) p1.toInt p2.toInt 318 else pr_f (u1 109) p1.toInt (-1) 318) ∧ u2 106 = (if hb_f (u1 123) (u1 122 0).toNat ≠ 0 ∨ p3.toInt ≠ 0 then pz_up (pz_up (u1 106) p2.toInt.toNat (wa (u1 106 p2.toInt.toNat) (u1 106 p1.toInt.toNat))) p1.toInt.toNat 0 else pz_up (u1 106) p1.toInt.toNat 0)) ∧ (¬ ((0 ≤ p1.toInt ∧ p1.toInt < u1 104 0 ∧ u1 108 p1.toInt.toNat = 0 ∧ 0 ≤ p2.toInt ∧ p2.toInt < u1 104 0 ∧ u1 108 p2.toInt.toNat = 0 ∧ p1.toInt ≠ p2.toInt)) → r2.toInt = -1 ∧ u2 108 = u1 108 ∧ u2 135 = u1 135 ∧ u2 132 = u1 132 ∧ u2 109 = u1 109 ∧ u2 106 = u1 106)) : RLA u2 ∧ r1.toInt = r2.toInt := by
  obtain ⟨hC, hO, hF, hG, hT, hW, hR, hS⟩ := h
  have F : ∀ c, c ∉ ([43, 51, 53, 54, 56, 65, 100, 106, 108, 109, 132, 135] : List Nat) → u2 c = g c := fun c hc => by rw [f2 c (fun q => hc ((show ∀ c, c ∈ ([100, 106, 108, 109, 132, 135] : List Nat) → c ∈ ([43, 51, 53, 54, 56, 65, 100, 106, 108, 109, 132, 135] : List Nat) by decide) c q)), f1 c (fun q => hc ((show ∀ c, c ∈ ([43, 51, 53, 54, 56, 65] : List Nat) → c ∈ ([43, 51, 53, 54, 56, 65, 100, 106, 108, 109, 132, 135] : List Nat) by decide) c q))]
  have ⟨C1, C2, C3, C4, C5, C6, C14, C18, C33, C34, C35, C1a, C1b, C2a, C2b, C3a, C3b, C5a, C5b, C4a, C6a, C6b, C22a, C22b⟩ := hC
  have ⟨e50, e51, e52, e54, O5, O6⟩ := hO
  have ⟨e41, e42, e43, e44, F5, F6, F7, F8⟩ := hF
  have ⟨e60, e61, e62, e63, e64, e65, e67, e68, G9⟩ := hG
  rw [f1 104 (by decide), f1 108 (by decide), f1 123 (by decide), f1 122 (by decide), f1 109 (by decide), f1 135 (by decide), f1 132 (by decide), f1 127 (by decide), f1 126 (by decide), f1 106 (by decide), ← e54, ← e43, ← e65, ← e60, ← e51, C2, C3] at m0
  have k43 : u2 43 = u1 43 := f2 43 (by decide)
  have k51 : u2 51 = u1 51 := f2 51 (by decide)
  have k53 : u2 53 = u1 53 := f2 53 (by decide)
  have k54 : u2 54 = u1 54 := f2 54 (by decide)
  have k56 : u2 56 = u1 56 := f2 56 (by decide)
  have k65 : u2 65 = u1 65 := f2 65 (by decide)
  have k1 : u2 1 = g 1 := F 1 (by decide)
  have k2 : u2 2 = g 2 := F 2 (by decide)
  have k3 : u2 3 = g 3 := F 3 (by decide)
  have k4 : u2 4 = g 4 := F 4 (by decide)
  have k5 : u2 5 = g 5 := F 5 (by decide)
  have k6 : u2 6 = g 6 := F 6 (by decide)
  have k11 : u2 11 = g 11 := F 11 (by decide)
  have k12 : u2 12 = g 12 := F 12 (by decide)
  have k13 : u2 13 = g 13 := F 13 (by decide)
  have k14 : u2 14 = g 14 := F 14 (by decide)
  have k18 : u2 18 = g 18 := F 18 (by decide)
  have k19 : u2 19 = g 19 := F 19 (by decide)
  have k33 : u2 33 = g 33 := F 33 (by decide)
  have k34 : u2 34 = g 34 := F 34 (by decide)
  have k35 : u2 35 = g 35 := F 35 (by decide)
  have k41 : u2 41 = g 41 := F 41 (by decide)
  have k42 : u2 42 = g 42 := F 42 (by decide)
  have k44 : u2 44 = g 44 := F 44 (by decide)
  have k45 : u2 45 = g 45 := F 45 (by decide)
  have k50 : u2 50 = g 50 := F 50 (by decide)
  have k52 : u2 52 = g 52 := F 52 (by decide)
  have k60 : u2 60 = g 60 := F 60 (by decide)
  have k61 : u2 61 = g 61 := F 61 (by decide)
  have k62 : u2 62 = g 62 := F 62 (by decide)
  have k63 : u2 63 = g 63 := F 63 (by decide)
  have k64 : u2 64 = g 64 := F 64 (by decide)
  have k66 : u2 66 = g 66 := F 66 (by decide)
  have k67 : u2 67 = g 67 := F 67 (by decide)
  have k68 : u2 68 = g 68 := F 68 (by decide)
  have k80 : u2 80 = g 80 := F 80 (by decide)
  have k81 : u2 81 = g 81 := F 81 (by decide)
  have k82 : u2 82 = g 82 := F 82 (by decide)
  have k86 : u2 86 = g 86 := F 86 (by decide)
  have k101 : u2 101 = g 101 := F 101 (by decide)
  have k102 : u2 102 = g 102 := F 102 (by decide)
  have k103 : u2 103 = g 103 := F 103 (by decide)
  have k104 : u2 104 = g 104 := F 104 (by decide)
  have k105 : u2 105 = g 105 := F 105 (by decide)
  have k107 : u2 107 = g 107 := F 107 (by decide)
  have k110 : u2 110 = g 110 := F 110 (by decide)
  have k111 : u2 111 = g 111 := F 111 (by decide)
  have k112 : u2 112 = g 112 := F 112 (by decide)
  have k113 : u2 113 = g 113 := F 113 (by decide)
  have k114 : u2 114 = g 114 := F 114 (by decide)
  have k118 : u2 118 = g 118 := F 118 (by decide)
  have k121 : u2 121 = g 121 := F 121 (by decide)
  have k122 : u2 122 = g 122 := F 122 (by decide)
  have k123 : u2 123 = g 123 := F 123 (by decide)
  have k125 : u2 125 = g 125 := F 125 (by decide)
  have k126 : u2 126 = g 126 := F 126 (by decide)
  have k127 : u2 127 = g 127 := F 127 (by decide)
  have k128 : u2 128 = g 128 := F 128 (by decide)
  have k129 : u2 129 = g 129 := F 129 (by decide)
  have k130 : u2 130 = g 130 := F 130 (by decide)
  have k131 : u2 131 = g 131 := F 131 (by decide)
  have k133 : u2 133 = g 133 := F 133 (by decide)
  have k134 : u2 134 = g 134 := F 134 (by decide)
  rw [← hR.2.2.1.2.2.2] at m0
  have pe : ∀ b : Int, 0 ≤ p1.toInt → pr_f (g 43) p1.toInt b (53 * (g 1 0).toNat) = pr_f (g 43) p1.toInt b 318 := fun b h0 => pr_ext (by omega) (fun j h1 h2 => by rw [(F5 j h1).1 h2]; omega)
  have key : u2 54 = u2 108 ∧ u2 65 = u2 132 ∧ u2 43 = u2 109 ∧ u2 51 = u2 106 ∧ r1.toInt = r2.toInt ∧ (∀ n, (g 2 0).toNat ≤ n → u2 51 n = 0 ∧ u2 54 n = 0 ∧ u2 56 n = -1) ∧ (∀ n, u2 54 n ≠ 0 → u2 56 n < 0) ∧ (∀ j, 53 * (g 1 0).toNat ≤ j → j < 318 → u2 43 j = -1) ∧ (∀ j, j < 318 → -1 ≤ u2 43 j ∧ u2 43 j < g 2 0) ∧ ((∀ k, k < (g 3 0).toNat → WR (g 66 k) (u2 135) k) ∧ (∀ o, o < 10 → WR (u2 56 o) (u2 135) (200 + o))) := by
    by_cases A : (0 ≤ p1.toInt ∧ p1.toInt < g 2 0 ∧ g 54 p1.toInt.toNat = 0 ∧ 0 ≤ p2.toInt ∧ p2.toInt < g 2 0 ∧ g 54 p2.toInt.toNat = 0 ∧ p1.toInt ≠ p2.toInt)
    · obtain ⟨a1, a2, a3, a4, a5, a6⟩ := c0.1 A
      obtain ⟨b1, b2, b3, b4, b5, b6⟩ := m0.1 A
      have wn := F8 p1.toInt.toNat (by omega)
      rw [show ((p1.toInt.toNat : Nat) : Int) = p1.toInt by omega] at wn
      rw [wn] at a1
      rw [pe _ A.1, pe _ A.1] at a5
      refine ⟨by rw [k54, a2, b2], by rw [k65, a4, b4], by rw [k43, a5, b5], by rw [k51, a6, b6], by rw [a1, b1], fun n hn => ⟨?_, ?_, ?_⟩, fun n hn => ?_, fun j h1 h2 => ?_, fun j hj => ?_, fun k hk => ?_, fun o ho => ?_⟩
      · rw [k51, a6]; split
        · rw [pz_up_n (by omega), pz_up_n (by omega)]; exact (O5 n hn).1
        · rw [pz_up_n (by omega)]; exact (O5 n hn).1
      · rw [k54, a2, pz_up_n (by omega)]; exact (O5 n hn).2.2.1
      · rw [k56, a3, pz_up_n (by omega)]; exact (O5 n hn).2.2.2
      · rw [k56, a3]; rw [k54, a2] at hn; by_cases e : n = p1.toInt.toNat
        · rw [e, pz_up_s]; omega
        · rw [pz_up_n e] at hn ⊢; exact O6 n hn
      · have z := (F5 j h1).1 h2
        rw [k43, a5]; unfold pr_f; split <;> (dsimp only; rw [if_neg (fun q => by omega)]; exact z)
      · have z := F7 j hj
        rw [k43, a5]; unfold pr_f; split <;> (dsimp only; split <;> omega)
      · rw [b3]; exact WR_offn (hW.1 k hk) (by omega)
      · rw [k56, a3, b3]; by_cases e : o = p1.toInt.toNat
        · rw [e, pz_up_s]; exact WR_no (by omega)
        · rw [pz_up_n e]; exact WR_offn (hW.2 o ho) (by omega)
    · obtain ⟨a1, a2, a3, a4, a5, a6⟩ := c0.2 A
      obtain ⟨b1, b2, b3, b4, b5, b6⟩ := m0.2 A
      exact ⟨by rw [k54, a2, b2], by rw [k65, a4, b4], by rw [k43, a5, b5], by rw [k51, a6, b6], by rw [a1, b1], fun n hn => by rw [k51, k54, k56, a6, a2, a3]; exact ⟨(O5 n hn).1, (O5 n hn).2.2⟩, by rw [k54, k56, a2, a3]; exact O6, fun j h1 h2 => by rw [k43, a5]; exact (F5 j h1).1 h2, by rw [k43, a5]; exact F7, by rw [k56, a3, b3]; exact hW⟩
  obtain ⟨q54, q65, q43, q51, qr, qo, qd, q5, q7, qw⟩ := key
  refine ⟨⟨?_, ?_, ?_, ?_, ?_, ?_, ?_, ?_⟩, ?_⟩
  · exact RC_cg hC (fun c hc => F c ((show ∀ c, c ∈ ([1, 2, 3, 4, 5, 6, 14, 18, 33, 34, 35, 101, 104, 111, 112, 114, 118, 121, 122, 126] : List Nat) → c ∉ ([43, 51, 53, 54, 56, 65, 100, 106, 108, 109, 132, 135] : List Nat) by decide) c hc))
  · exact ⟨by rw [k50, k105]; exact e50, q51, by rw [k52, k107]; exact e52, q54, fun n hn => by rw [k2] at hn; obtain ⟨x, y, z⟩ := qo n hn; exact ⟨x, by rw [k52]; exact (O5 n hn).2.1, y, z⟩, qd⟩
  · exact ⟨by rw [k41, k102]; exact e41, by rw [k42, k103]; exact e42, q43, by rw [k44, k110]; exact e44, fun j hj => by rw [k1] at hj; rw [k44]; exact ⟨q5 j hj, (F5 j hj).2⟩, by rw [k1, k42]; exact F6, by rw [k2]; exact q7, by rw [k43, k53]; exact c1⟩
  · exact ⟨by rw [k60, k127]; exact e60, by rw [k61, k128]; exact e61, by rw [k62, k129]; exact e62, by rw [k63, k130]; exact e63, by rw [k64, k131]; exact e64, q65, by rw [k67, k133]; exact e67, by rw [k68, k134]; exact e68, by rw [k1, k2, k3, k4, k60, k61, k62, k63, k64, k68]; exact G9⟩
  · exact RT_cg hT (fun c hc => F c ((show ∀ c, c ∈ ([1, 3, 4, 45, 61, 62, 63] : List Nat) → c ∉ ([43, 51, 53, 54, 56, 65, 100, 106, 108, 109, 132, 135] : List Nat) by decide) c hc))
  · unfold RW; rw [k3, k66]; exact qw
  · exact RR_cg hR (fun c hc => F c ((show ∀ c, c ∈ ([11, 12, 13, 80, 81, 82, 122, 123, 125] : List Nat) → c ∉ ([43, 51, 53, 54, 56, 65, 100, 106, 108, 109, 132, 135] : List Nat) by decide) c hc))
  · exact RS_cg hS (fun c hc => F c ((show ∀ c, c ∈ ([19, 86, 113] : List Nat) → c ∉ ([43, 51, 53, 54, 56, 65, 100, 106, 108, 109, 132, 135] : List Nat) by decide) c hc))
  · exact qr

theorem gv_in {fc oc gc now z o f w : Int} {de ow sh st : Nat → Int} (h : gv_c fc oc gc now de ow sh z st o f w = 0) : (0 ≤ o ∧ o < oc ∧ 0 ≤ f ∧ f < fc ∧ 0 ≤ w ∧ w ≤ 52) ∧ gc < 200 := by
  unfold gv_c at h
  by_cases c1 : 0 ≤ o ∧ o < oc ∧ de o.toNat = 0 ∧ 0 ≤ f ∧ f < fc ∧ 0 ≤ w ∧ w ≤ 52
  · rw [if_neg (fun q => q c1)] at h
    refine ⟨⟨c1.1, c1.2.1, c1.2.2.2⟩, ?_⟩
    by_cases c2 : 200 ≤ gc
    · rw [if_pos (show 200 ≤ gc ∨ _ from Or.inl c2)] at h
      split at h
      · omega
      · split at h
        · omega
        · split at h
          · omega
          · split at h <;> omega
    · omega
  · rw [if_pos c1] at h; omega
theorem gv_z {fc oc gc now z z' o f w : Int} {de ow sh st : Nat → Int} (h : 0 ≤ f → f < fc → 0 ≤ w → w ≤ 52 → z = z') : gv_c fc oc gc now de ow sh z st o f w = gv_c fc oc gc now de ow sh z' st o f w := by
  by_cases c1 : 0 ≤ o ∧ o < oc ∧ de o.toNat = 0 ∧ 0 ≤ f ∧ f < fc ∧ 0 ≤ w ∧ w ≤ 52
  · rw [h c1.2.2.2.1 c1.2.2.2.2.1 c1.2.2.2.2.2.1 c1.2.2.2.2.2.2]
  · unfold gv_c; rw [if_pos c1, if_pos c1]
theorem ga_cg {fl we ye fl' we' ye' : Nat → Int} {f w y : Int} : ∀ n, (∀ k, k < n → fl k = fl' k ∧ we k = we' k ∧ ye k = ye' k) → ga_f fl we ye f w y n = ga_f fl' we' ye' f w y n := by
  intro n
  induction n with
  | zero => exact fun _ => rfl
  | succ n ih =>
    intro h
    obtain ⟨a, b, c⟩ := h n (by omega)
    show (if _ then _ else _) = (if _ then _ else _)
    rw [a, b, c, ih (fun k hk => h k (by omega))]

theorem st_give {g u1 u2 : gh} {r1 r2 p1 p2 p3 : Int32} (h : RLA g) (f1 : ∀ c, c ∉ ([3, 35, 45, 60, 61, 62, 63, 64, 65, 66, 67, 68] : List Nat) → u1 c = g c) (f2 : ∀ c, c ∉ ([100, 126, 127, 128, 129, 130, 131, 132, 133, 134, 135] : List Nat) → u2 c = u1 c)
    (c0 : (gv_c (g 1 0) (g 2 0) (g 3 0) (g 5 0) (g 54) (g 43) (g 44) (g 45 (53 * p2.toInt.toNat + p3.toInt.toNat)) (g 65) p1.toInt p2.toInt p3.toInt = 0 → r1.toInt = g 3 0 ∧ u1 3 0 = g 3 0 + 1 ∧ u1 35 0 = g 3 0 + 1 ∧ u1 60 = pz_up (g 60) (g 3 0).toNat p1.toInt ∧ u1 61 = pz_up (g 61) (g 3 0).toNat p2.toInt ∧ u1 62 = pz_up (g 62) (g 3 0).toNat p3.toInt ∧ u1 63 = pz_up (g 63) (g 3 0).toNat (g 4 0) ∧ u1 64 = pz_up (g 64) (g 3 0).toNat (wo_f (g 80) (g 81) (g 82) (64 * (g 13 0).toNat) (g 42 p2.toInt.toNat) p3.toInt (p3.toInt - g 5 0)) ∧ u1 65 = pz_up (g 65) (g 3 0).toNat 0 ∧ u1 66 = pz_up (g 66) (g 3 0).toNat (-1) ∧ u1 67 = pz_up (g 67) (g 3 0).toNat (-1) ∧ u1 68 = pz_up (g 68) (g 3 0).toNat (-1) ∧ u1 45 = pz_up (g 45) (53 * p2.toInt.toNat + p3.toInt.toNat) (g 3 0)) ∧ (gv_c (g 1 0) (g 2 0) (g 3 0) (g 5 0) (g 54) (g 43) (g 44) (g 45 (53 * p2.toInt.toNat + p3.toInt.toNat)) (g 65) p1.toInt p2.toInt p3.toInt ≠ 0 → r1.toInt = gv_c (g 1 0) (g 2 0) (g 3 0) (g 5 0) (g 54) (g 43) (g 44) (g 45 (53 * p2.toInt.toNat + p3.toInt.toNat)) (g 65) p1.toInt p2.toInt p3.toInt ∧ u1 3 0 = g 3 0 ∧ u1 35 0 = g 35 0 ∧ u1 45 = g 45 ∧ u1 60 = g 60 ∧ u1 61 = g 61 ∧ u1 62 = g 62 ∧ u1 63 = g 63 ∧ u1 64 = g 64 ∧ u1 65 = g 65 ∧ u1 66 = g 66 ∧ u1 67 = g 67 ∧ u1 68 = g 68))
    (m0 : (gv_c (u1 101 0) (u1 104 0) (u1 126 0) (u1 112 0) (u1 108) (u1 109) (u1 110) (ga_f (u1 128) (u1 129) (u1 130) p2.toInt p3.toInt (u1 111 0) (u1 126 0).toNat) (u1 132) p1.toInt p2.toInt p3.toInt = 0 → r2.toInt = u1 126 0 ∧ u2 126 0 = u1 126 0 + 1 ∧ u2 127 = pz_up (u1 127) (u1 126 0).toNat p1.toInt ∧ u2 128 = pz_up (u1 128) (u1 126 0).toNat p2.toInt ∧ u2 129 = pz_up (u1 129) (u1 126 0).toNat p3.toInt ∧ u2 130 = pz_up (u1 130) (u1 126 0).toNat (u1 111 0) ∧ u2 131 = pz_up (u1 131) (u1 126 0).toNat (wm_w (u1 123) p3.toInt ((u1 103) p2.toInt.toNat) (p3.toInt - (u1 112) 0) ((u1 122) 0).toNat) ∧ u2 132 = pz_up (u1 132) (u1 126 0).toNat 0 ∧ u2 133 = pz_up (u1 133) (u1 126 0).toNat (-1) ∧ u2 134 = pz_up (u1 134) (u1 126 0).toNat (-1) ∧ u2 135 = pz_up (u1 135) (4 * (u1 126 0).toNat + 3) 0) ∧ (gv_c (u1 101 0) (u1 104 0) (u1 126 0) (u1 112 0) (u1 108) (u1 109) (u1 110) (ga_f (u1 128) (u1 129) (u1 130) p2.toInt p3.toInt (u1 111 0) (u1 126 0).toNat) (u1 132) p1.toInt p2.toInt p3.toInt ≠ 0 → r2.toInt = gv_c (u1 101 0) (u1 104 0) (u1 126 0) (u1 112 0) (u1 108) (u1 109) (u1 110) (ga_f (u1 128) (u1 129) (u1 130) p2.toInt p3.toInt (u1 111 0) (u1 126 0).toNat) (u1 132) p1.toInt p2.toInt p3.toInt ∧ u2 126 0 = u1 126 0 ∧ u2 127 = u1 127 ∧ u2 128 = u1 128 ∧ u2 129 = u1 129 ∧ u2 130 = u1 130 ∧ u2 131 = u1 131 ∧ u2 132 = u1 132 ∧ u2 133 = u1 133 ∧ u2 134 = u1 134 ∧ u2 135 = u1 135)) : RLA u2 ∧ r1.toInt = r2.toInt := by
  obtain ⟨hC, hO, hF, hG, hT, hW, hR, hS⟩ := h
  have F : ∀ c, c ∉ ([3, 35, 45, 60, 61, 62, 63, 64, 65, 66, 67, 68, 100, 126, 127, 128, 129, 130, 131, 132, 133, 134, 135] : List Nat) → u2 c = g c := fun c hc => by rw [f2 c (fun q => hc ((show ∀ c, c ∈ ([100, 126, 127, 128, 129, 130, 131, 132, 133, 134, 135] : List Nat) → c ∈ ([3, 35, 45, 60, 61, 62, 63, 64, 65, 66, 67, 68, 100, 126, 127, 128, 129, 130, 131, 132, 133, 134, 135] : List Nat) by decide) c q)), f1 c (fun q => hc ((show ∀ c, c ∈ ([3, 35, 45, 60, 61, 62, 63, 64, 65, 66, 67, 68] : List Nat) → c ∈ ([3, 35, 45, 60, 61, 62, 63, 64, 65, 66, 67, 68, 100, 126, 127, 128, 129, 130, 131, 132, 133, 134, 135] : List Nat) by decide) c q))]
  have ⟨C1, C2, C3, C4, C5, C6, C14, C18, C33, C34, C35, C1a, C1b, C2a, C2b, C3a, C3b, C5a, C5b, C4a, C6a, C6b, C22a, C22b⟩ := hC
  have ⟨e50, e51, e52, e54, O5, O6⟩ := hO
  have ⟨e41, e42, e43, e44, F5, F6, F7, F8⟩ := hF
  have ⟨e60, e61, e62, e63, e64, e65, e67, e68, G9⟩ := hG
  rw [f1 101 (by decide), f1 104 (by decide), f1 126 (by decide), f1 112 (by decide), f1 108 (by decide), f1 109 (by decide), f1 110 (by decide), f1 128 (by decide), f1 129 (by decide), f1 130 (by decide), f1 111 (by decide), f1 132 (by decide), f1 127 (by decide), f1 131 (by decide), f1 123 (by decide), f1 103 (by decide), f1 122 (by decide), f1 133 (by decide), f1 134 (by decide), f1 135 (by decide), ← e54, ← e43, ← e44, ← e61, ← e62, ← e63, ← e65, ← e60, ← e64, ← e42, ← e67, ← e68, C1, C2, C3, C5, C4] at m0
  have k3 : u2 3 = u1 3 := f2 3 (by decide)
  have k35 : u2 35 = u1 35 := f2 35 (by decide)
  have k45 : u2 45 = u1 45 := f2 45 (by decide)
  have k60 : u2 60 = u1 60 := f2 60 (by decide)
  have k61 : u2 61 = u1 61 := f2 61 (by decide)
  have k62 : u2 62 = u1 62 := f2 62 (by decide)
  have k63 : u2 63 = u1 63 := f2 63 (by decide)
  have k64 : u2 64 = u1 64 := f2 64 (by decide)
  have k65 : u2 65 = u1 65 := f2 65 (by decide)
  have k66 : u2 66 = u1 66 := f2 66 (by decide)
  have k67 : u2 67 = u1 67 := f2 67 (by decide)
  have k68 : u2 68 = u1 68 := f2 68 (by decide)
  have k1 : u2 1 = g 1 := F 1 (by decide)
  have k2 : u2 2 = g 2 := F 2 (by decide)
  have k4 : u2 4 = g 4 := F 4 (by decide)
  have k5 : u2 5 = g 5 := F 5 (by decide)
  have k6 : u2 6 = g 6 := F 6 (by decide)
  have k11 : u2 11 = g 11 := F 11 (by decide)
  have k12 : u2 12 = g 12 := F 12 (by decide)
  have k13 : u2 13 = g 13 := F 13 (by decide)
  have k14 : u2 14 = g 14 := F 14 (by decide)
  have k18 : u2 18 = g 18 := F 18 (by decide)
  have k19 : u2 19 = g 19 := F 19 (by decide)
  have k33 : u2 33 = g 33 := F 33 (by decide)
  have k34 : u2 34 = g 34 := F 34 (by decide)
  have k41 : u2 41 = g 41 := F 41 (by decide)
  have k42 : u2 42 = g 42 := F 42 (by decide)
  have k43 : u2 43 = g 43 := F 43 (by decide)
  have k44 : u2 44 = g 44 := F 44 (by decide)
  have k50 : u2 50 = g 50 := F 50 (by decide)
  have k51 : u2 51 = g 51 := F 51 (by decide)
  have k52 : u2 52 = g 52 := F 52 (by decide)
  have k53 : u2 53 = g 53 := F 53 (by decide)
  have k54 : u2 54 = g 54 := F 54 (by decide)
  have k56 : u2 56 = g 56 := F 56 (by decide)
  have k80 : u2 80 = g 80 := F 80 (by decide)
  have k81 : u2 81 = g 81 := F 81 (by decide)
  have k82 : u2 82 = g 82 := F 82 (by decide)
  have k86 : u2 86 = g 86 := F 86 (by decide)
  have k101 : u2 101 = g 101 := F 101 (by decide)
  have k102 : u2 102 = g 102 := F 102 (by decide)
  have k103 : u2 103 = g 103 := F 103 (by decide)
  have k104 : u2 104 = g 104 := F 104 (by decide)
  have k105 : u2 105 = g 105 := F 105 (by decide)
  have k106 : u2 106 = g 106 := F 106 (by decide)
  have k107 : u2 107 = g 107 := F 107 (by decide)
  have k108 : u2 108 = g 108 := F 108 (by decide)
  have k109 : u2 109 = g 109 := F 109 (by decide)
  have k110 : u2 110 = g 110 := F 110 (by decide)
  have k111 : u2 111 = g 111 := F 111 (by decide)
  have k112 : u2 112 = g 112 := F 112 (by decide)
  have k113 : u2 113 = g 113 := F 113 (by decide)
  have k114 : u2 114 = g 114 := F 114 (by decide)
  have k118 : u2 118 = g 118 := F 118 (by decide)
  have k121 : u2 121 = g 121 := F 121 (by decide)
  have k122 : u2 122 = g 122 := F 122 (by decide)
  have k123 : u2 123 = g 123 := F 123 (by decide)
  have k125 : u2 125 = g 125 := F 125 (by decide)
  have zz : gv_c (g 1 0) (g 2 0) (g 3 0) (g 5 0) (g 54) (g 43) (g 44) (g 45 (53 * p2.toInt.toNat + p3.toInt.toNat)) (g 65) p1.toInt p2.toInt p3.toInt = gv_c (g 1 0) (g 2 0) (g 3 0) (g 5 0) (g 54) (g 43) (g 44) (ga_f (g 61) (g 62) (g 63) p2.toInt p3.toInt (g 4 0) (g 3 0).toNat) (g 65) p1.toInt p2.toInt p3.toInt := gv_z (fun x1 x2 x3 x4 => by
    have q := hT p2.toInt.toNat p3.toInt.toNat (by omega) (by omega)
    rw [show ((p2.toInt.toNat : Nat) : Int) = p2.toInt by omega, show ((p3.toInt.toNat : Nat) : Int) = p3.toInt by omega] at q
    exact q)
  rw [← zz] at m0
  have key : (u2 60 = u2 127 ∧ u2 61 = u2 128 ∧ u2 62 = u2 129 ∧ u2 63 = u2 130 ∧ u2 64 = u2 131 ∧ u2 65 = u2 132 ∧ u2 67 = u2 133 ∧ u2 68 = u2 134 ∧ (∀ k, k < (u2 3 0).toNat → 0 ≤ u2 60 k ∧ u2 60 k < g 2 0 ∧ 0 ≤ u2 61 k ∧ u2 61 k < g 1 0 ∧ 0 ≤ u2 62 k ∧ u2 62 k ≤ 52 ∧ u2 63 k ≤ g 4 0 ∧ 0 ≤ u2 64 k ∧ u2 64 k ≤ 29997 ∧ u2 68 k < g 2 0)) ∧ (u2 126 0 = u2 3 0 ∧ u2 3 0 = u2 35 0 ∧ 0 ≤ u2 3 0 ∧ u2 3 0 ≤ 200) ∧ ((∀ k, k < (u2 3 0).toNat → WR (u2 66 k) (u2 135) k) ∧ (∀ o, o < 10 → WR (g 56 o) (u2 135) (200 + o))) ∧ (∀ f w : Nat, f < (g 1 0).toNat → w < 53 → u2 45 (53 * f + w) = ga_f (u2 61) (u2 62) (u2 63) (f : Int) (w : Int) (g 4 0) (u2 3 0).toNat) ∧ r1.toInt = r2.toInt := by
    by_cases A : gv_c (g 1 0) (g 2 0) (g 3 0) (g 5 0) (g 54) (g 43) (g 44) (g 45 (53 * p2.toInt.toNat + p3.toInt.toNat)) (g 65) p1.toInt p2.toInt p3.toInt = 0
    · obtain ⟨a0, a3, a35, a60, a61, a62, a63, a64, a65, a66, a67, a68, a45⟩ := c0.1 A
      obtain ⟨b0, b26, b27, b28, b29, b30, b31, b32, b33, b34, b35⟩ := m0.1 A
      obtain ⟨i1, i2⟩ := gv_in A
      have sz := F6 p2.toInt.toNat (by omega)
      have we := worth_eq (w := p3.toInt) (s := g 42 p2.toInt.toNat) (d := p3.toInt - g 5 0) hR.2.2.1 (fun j => (hR.2.2.2.1.1 j).1) (fun j => (hR.2.2.2.1.1 j).2) hR.2.2.2.1.2 ⟨by omega, by omega⟩ sz
      have wr := worth_rg (w := p3.toInt) (s := g 42 p2.toInt.toNat) (d := p3.toInt - g 5 0) (fun j => (hR.2.2.2.1.1 j).1) (fun j => (hR.2.2.2.1.1 j).2) (g 122 0).toNat
      rw [we] at a64
      have n3 : (u2 3 0).toNat = (g 3 0).toNat + 1 := by rw [k3]; omega
      refine ⟨⟨by rw [k60, a60, b27], by rw [k61, a61, b28], by rw [k62, a62, b29], by rw [k63, a63, b30], by rw [k64, a64, b31], by rw [k65, a65, b32], by rw [k67, a67, b33], by rw [k68, a68, b34], fun k hk => ?_⟩, ⟨by rw [k3]; omega, by rw [k3, k35]; omega, by rw [k3]; omega, by rw [k3]; omega⟩, ⟨fun k hk => ?_, fun o ho => by rw [b35]; exact WR_offn (hW.2 o ho) (by omega)⟩, fun f w hf hw => ?_, by rw [a0, b0]⟩
      · rw [n3] at hk
        rw [k60, k61, k62, k63, k64, k68, a60, a61, a62, a63, a64, a68]
        by_cases e : k = (g 3 0).toNat
        · rw [e, pz_up_s, pz_up_s, pz_up_s, pz_up_s, pz_up_s, pz_up_s]; omega
        · rw [pz_up_n e, pz_up_n e, pz_up_n e, pz_up_n e, pz_up_n e, pz_up_n e]; exact G9 k (by omega)
      · rw [n3] at hk
        rw [k66, a66, b35]
        by_cases e : k = (g 3 0).toNat
        · rw [e, pz_up_s]; exact WR_no (by omega)
        · rw [pz_up_n e]; exact WR_offn (hW.1 k (by omega)) e
      · rw [n3, k45, k61, k62, k63, a45, a61, a62, a63]
        show _ = (if _ then _ else _)
        rw [pz_up_s, pz_up_s, pz_up_s, ga_cg (fl' := g 61) (we' := g 62) (ye' := g 63) _ (fun k hk => ⟨pz_up_n (by omega), pz_up_n (by omega), pz_up_n (by omega)⟩)]
        by_cases e : f = p2.toInt.toNat ∧ w = p3.toInt.toNat
        · rw [if_pos ⟨rfl, by omega, by omega⟩, e.1, e.2, pz_up_s]; omega
        · rw [if_neg (fun q => e ⟨by omega, by omega⟩), pz_up_n (by omega)]; exact hT f w hf hw
    · obtain ⟨a0, a3, a35, a45, a60, a61, a62, a63, a64, a65, a66, a67, a68⟩ := c0.2 A
      obtain ⟨b0, b26, b27, b28, b29, b30, b31, b32, b33, b34, b35⟩ := m0.2 A
      refine ⟨⟨by rw [k60, a60, b27], by rw [k61, a61, b28], by rw [k62, a62, b29], by rw [k63, a63, b30], by rw [k64, a64, b31], by rw [k65, a65, b32], by rw [k67, a67, b33], by rw [k68, a68, b34], fun k hk => ?_⟩, ⟨by rw [k3]; omega, by rw [k3, k35]; omega, by rw [k3]; omega, by rw [k3]; omega⟩, ⟨fun k hk => ?_, fun o ho => by rw [b35]; exact hW.2 o ho⟩, fun f w hf hw => ?_, by rw [a0, b0]⟩
      · rw [k3, a3] at hk; rw [k60, k61, k62, k63, k64, k68, a60, a61, a62, a63, a64, a68]; exact G9 k hk
      · rw [k3, a3] at hk; rw [k66, a66, b35]; exact hW.1 k hk
      · rw [k3, a3, k45, k61, k62, k63, a45, a61, a62, a63]; exact hT f w hf hw
  obtain ⟨qG, ⟨q126, q35, q3a, q3b⟩, qW, qT, qr⟩ := key
  refine ⟨⟨?_, ?_, ?_, ?_, ?_, ?_, ?_, ?_⟩, ?_⟩
  · unfold RC; rw [k101, k1, k104, k2, k111, k4, k112, k5, k114, k6, k121, k14, k118, k18, k33, k34, k122]; exact ⟨C1, C2, q126, C4, C5, C6, C14, C18, C33, C34, q35, C1a, C1b, C2a, C2b, q3a, q3b, C5a, C5b, C4a, C6a, C6b, C22a, C22b⟩
  · exact RO_cg hO (fun c hc => F c ((show ∀ c, c ∈ ([2, 50, 51, 52, 54, 56, 105, 106, 107, 108] : List Nat) → c ∉ ([3, 35, 45, 60, 61, 62, 63, 64, 65, 66, 67, 68, 100, 126, 127, 128, 129, 130, 131, 132, 133, 134, 135] : List Nat) by decide) c hc))
  · exact RF_cg hF (fun c hc => F c ((show ∀ c, c ∈ ([1, 2, 41, 42, 43, 44, 53, 102, 103, 109, 110] : List Nat) → c ∉ ([3, 35, 45, 60, 61, 62, 63, 64, 65, 66, 67, 68, 100, 126, 127, 128, 129, 130, 131, 132, 133, 134, 135] : List Nat) by decide) c hc))
  · unfold RG; rw [k1, k2, k4]; exact qG
  · unfold RT; rw [k1, k4]; exact qT
  · unfold RW; rw [k56]; exact qW
  · exact RR_cg hR (fun c hc => F c ((show ∀ c, c ∈ ([11, 12, 13, 80, 81, 82, 122, 123, 125] : List Nat) → c ∉ ([3, 35, 45, 60, 61, 62, 63, 64, 65, 66, 67, 68, 100, 126, 127, 128, 129, 130, 131, 132, 133, 134, 135] : List Nat) by decide) c hc))
  · exact RS_cg hS (fun c hc => F c ((show ∀ c, c ∈ ([19, 86, 113] : List Nat) → c ∉ ([3, 35, 45, 60, 61, 62, 63, 64, 65, 66, 67, 68, 100, 126, 127, 128, 129, 130, 131, 132, 133, 134, 135] : List Nat) by decide) c hc))
  · exact qr

theorem RGS_b {G L : Nat} {su : Nat → Nat → Prop} {w ow s0 g0 b0 s g b : Nat → Int} {z oc : Int} (h : RGS G L su w ow s0 g0 b0 s g b z) (h1 : ∀ y, y < G → ow y < oc) (h2 : ∀ x, x < G → b0 x < oc) : ∀ x, x < G → b x < oc := by
  obtain ⟨F, -, a2, -, a4⟩ := h
  intro x hx
  by_cases c : ∃ y, 0 ≤ F y ∧ (F y).toNat = x
  · obtain ⟨y, y1, y2⟩ := c
    rw [← y2, a4.2.2.1 y y1]
    exact h1 y (Nat.not_le.mp (fun q => by have := a2 y q; omega))
  · rw [a4.2.2.2 x (fun y p q => c ⟨y, p, q⟩)]; exact h2 x hx
theorem ru_b {wo fl we tw si : Nat → Int} {G N : Nat} : ∀ (t : Nat) (x : ru_S) (k : Nat), (ru_f wo fl we tw si G N t x).2.2.2.2.2.1 k = x.2.2.2.2.2.1 k ∨ (ru_f wo fl we tw si G N t x).2.2.2.2.2.1 k < (N : Int) := by
  intro t
  induction t with
  | zero => intro x k; exact Or.inl rfl
  | succ t ih =>
    intro x k
    have hz := fi_in (li := x.2.2.1) (lu := x.2.1) (n := N) rfl
    unfold ru_f
    split
    · exact Or.inl rfl
    · split
      · exact ih _ k
      · rename_i c0 c1
        rcases ih (pz_up x.1 (fi_f x.2.2.1 x.2.1 N).toNat (ws (x.1 (fi_f x.2.2.1 x.2.1 N).toNat) (wo (bb_f x.2.2.2.2.1 wo fl we tw si (x.1 (fi_f x.2.2.1 x.2.1 N).toNat) (x.2.2.2.1 (fi_f x.2.2.1 x.2.1 N).toNat) G).toNat)),
       pz_up x.2.1 (fi_f x.2.2.1 x.2.1 N).toNat (wa (x.2.1 (fi_f x.2.2.1 x.2.1 N).toNat) (wo (bb_f x.2.2.2.2.1 wo fl we tw si (x.1 (fi_f x.2.2.1 x.2.1 N).toNat) (x.2.2.2.1 (fi_f x.2.2.1 x.2.1 N).toNat) G).toNat)),
       pz_up x.2.2.1 (fi_f x.2.2.1 x.2.1 N).toNat 0,
       pz_up x.2.2.2.1 (fi_f x.2.2.1 x.2.1 N).toNat (-1),
       pz_up x.2.2.2.2.1 (bb_f x.2.2.2.2.1 wo fl we tw si (x.1 (fi_f x.2.2.1 x.2.1 N).toNat) (x.2.2.2.1 (fi_f x.2.2.1 x.2.1 N).toNat) G).toNat 3,
       pz_up x.2.2.2.2.2.1 (bb_f x.2.2.2.2.1 wo fl we tw si (x.1 (fi_f x.2.2.1 x.2.1 N).toNat) (x.2.2.2.1 (fi_f x.2.2.1 x.2.1 N).toNat) G).toNat (fi_f x.2.2.1 x.2.1 N),
       x.2.2.2.2.2.2 + 1) k with q | q
        · by_cases e : k = (bb_f x.2.2.2.2.1 wo fl we tw si (x.1 (fi_f x.2.2.1 x.2.1 N).toNat) (x.2.2.2.1 (fi_f x.2.2.1 x.2.1 N).toNat) G).toNat
          · right; rw [q]; show pz_up _ _ _ k < _; rw [e, pz_up_s]; omega
          · left; rw [q]; exact pz_up_n e
        · exact Or.inr q

theorem st_rings {g u1 u2 : gh} {r1 r2 p1 : Int32} (h : RLA g) (f1 : ∀ c, c ∉ ([7, 8, 46, 65, 67, 68, 83, 84, 85, 86] : List Nat) → u1 c = g c) (f2 : ∀ c, c ∉ ([100, 132, 133, 134, 136, 137, 138, 139, 140, 141, 142, 143] : List Nat) → u2 c = u1 c)
    (c0 : (2 ≤ p1.toInt ∧ p1.toInt ≤ 9 → RGS (g 3 0).toNat p1.toInt.toNat (su_c (g 65) (g 66) (g 61) (g 62) (g 41) (g 42)) (g 64) (g 60) (g 65) (g 67) (g 68) (u1 65) (u1 67) (u1 68) r1.toInt) ∧ (¬ (2 ≤ p1.toInt ∧ p1.toInt ≤ 9) → r1.toInt = -1 ∧ u1 65 = (g 65) ∧ u1 67 = (g 67) ∧ u1 68 = (g 68)))
    (c1 : u1 86 0 = 0)
    (m0 : (2 ≤ p1.toInt ∧ p1.toInt ≤ 9 → RGS (u1 126 0).toNat p1.toInt.toNat (su_m (u1 132) (u1 135) (u1 128) (u1 129) (u1 102) (u1 103)) (u1 131) (u1 127) (u1 132) (u1 133) (u1 134) (u2 132) (u2 133) (u2 134) r2.toInt) ∧ (¬ (2 ≤ p1.toInt ∧ p1.toInt ≤ 9) → r2.toInt = -1 ∧ u2 132 = (u1 132) ∧ u2 133 = (u1 133) ∧ u2 134 = (u1 134))) : RLA u2 ∧ r1.toInt = r2.toInt := by
  obtain ⟨hC, hO, hF, hG, hT, hW, hR, hS⟩ := h
  have F : ∀ c, c ∉ ([7, 8, 46, 65, 67, 68, 83, 84, 85, 86, 100, 132, 133, 134, 136, 137, 138, 139, 140, 141, 142, 143] : List Nat) → u2 c = g c := fun c hc => by rw [f2 c (fun q => hc ((show ∀ c, c ∈ ([100, 132, 133, 134, 136, 137, 138, 139, 140, 141, 142, 143] : List Nat) → c ∈ ([7, 8, 46, 65, 67, 68, 83, 84, 85, 86, 100, 132, 133, 134, 136, 137, 138, 139, 140, 141, 142, 143] : List Nat) by decide) c q)), f1 c (fun q => hc ((show ∀ c, c ∈ ([7, 8, 46, 65, 67, 68, 83, 84, 85, 86] : List Nat) → c ∈ ([7, 8, 46, 65, 67, 68, 83, 84, 85, 86, 100, 132, 133, 134, 136, 137, 138, 139, 140, 141, 142, 143] : List Nat) by decide) c q))]
  have ⟨C1, C2, C3, C4, C5, C6, C14, C18, C33, C34, C35, C1a, C1b, C2a, C2b, C3a, C3b, C5a, C5b, C4a, C6a, C6b, C22a, C22b⟩ := hC
  have ⟨e50, e51, e52, e54, O5, O6⟩ := hO
  have ⟨e41, e42, e43, e44, F5, F6, F7, F8⟩ := hF
  have ⟨e60, e61, e62, e63, e64, e65, e67, e68, G9⟩ := hG
  rw [f1 126 (by decide), f1 132 (by decide), f1 135 (by decide), f1 128 (by decide), f1 129 (by decide), f1 102 (by decide), f1 103 (by decide), f1 131 (by decide), f1 127 (by decide), f1 133 (by decide), f1 134 (by decide), ← e65, ← e61, ← e62, ← e41, ← e42, ← e64, ← e60, ← e67, ← e68, C3] at m0
  have k7 : u2 7 = u1 7 := f2 7 (by decide)
  have k8 : u2 8 = u1 8 := f2 8 (by decide)
  have k46 : u2 46 = u1 46 := f2 46 (by decide)
  have k65 : u2 65 = u1 65 := f2 65 (by decide)
  have k67 : u2 67 = u1 67 := f2 67 (by decide)
  have k68 : u2 68 = u1 68 := f2 68 (by decide)
  have k83 : u2 83 = u1 83 := f2 83 (by decide)
  have k84 : u2 84 = u1 84 := f2 84 (by decide)
  have k85 : u2 85 = u1 85 := f2 85 (by decide)
  have k86 : u2 86 = u1 86 := f2 86 (by decide)
  have k1 : u2 1 = g 1 := F 1 (by decide)
  have k2 : u2 2 = g 2 := F 2 (by decide)
  have k3 : u2 3 = g 3 := F 3 (by decide)
  have k4 : u2 4 = g 4 := F 4 (by decide)
  have k5 : u2 5 = g 5 := F 5 (by decide)
  have k6 : u2 6 = g 6 := F 6 (by decide)
  have k11 : u2 11 = g 11 := F 11 (by decide)
  have k12 : u2 12 = g 12 := F 12 (by decide)
  have k13 : u2 13 = g 13 := F 13 (by decide)
  have k14 : u2 14 = g 14 := F 14 (by decide)
  have k18 : u2 18 = g 18 := F 18 (by decide)
  have k19 : u2 19 = g 19 := F 19 (by decide)
  have k33 : u2 33 = g 33 := F 33 (by decide)
  have k34 : u2 34 = g 34 := F 34 (by decide)
  have k35 : u2 35 = g 35 := F 35 (by decide)
  have k41 : u2 41 = g 41 := F 41 (by decide)
  have k42 : u2 42 = g 42 := F 42 (by decide)
  have k43 : u2 43 = g 43 := F 43 (by decide)
  have k44 : u2 44 = g 44 := F 44 (by decide)
  have k45 : u2 45 = g 45 := F 45 (by decide)
  have k50 : u2 50 = g 50 := F 50 (by decide)
  have k51 : u2 51 = g 51 := F 51 (by decide)
  have k52 : u2 52 = g 52 := F 52 (by decide)
  have k53 : u2 53 = g 53 := F 53 (by decide)
  have k54 : u2 54 = g 54 := F 54 (by decide)
  have k56 : u2 56 = g 56 := F 56 (by decide)
  have k60 : u2 60 = g 60 := F 60 (by decide)
  have k61 : u2 61 = g 61 := F 61 (by decide)
  have k62 : u2 62 = g 62 := F 62 (by decide)
  have k63 : u2 63 = g 63 := F 63 (by decide)
  have k64 : u2 64 = g 64 := F 64 (by decide)
  have k66 : u2 66 = g 66 := F 66 (by decide)
  have k80 : u2 80 = g 80 := F 80 (by decide)
  have k81 : u2 81 = g 81 := F 81 (by decide)
  have k82 : u2 82 = g 82 := F 82 (by decide)
  have k101 : u2 101 = g 101 := F 101 (by decide)
  have k102 : u2 102 = g 102 := F 102 (by decide)
  have k103 : u2 103 = g 103 := F 103 (by decide)
  have k104 : u2 104 = g 104 := F 104 (by decide)
  have k105 : u2 105 = g 105 := F 105 (by decide)
  have k106 : u2 106 = g 106 := F 106 (by decide)
  have k107 : u2 107 = g 107 := F 107 (by decide)
  have k108 : u2 108 = g 108 := F 108 (by decide)
  have k109 : u2 109 = g 109 := F 109 (by decide)
  have k110 : u2 110 = g 110 := F 110 (by decide)
  have k111 : u2 111 = g 111 := F 111 (by decide)
  have k112 : u2 112 = g 112 := F 112 (by decide)
  have k113 : u2 113 = g 113 := F 113 (by decide)
  have k114 : u2 114 = g 114 := F 114 (by decide)
  have k118 : u2 118 = g 118 := F 118 (by decide)
  have k121 : u2 121 = g 121 := F 121 (by decide)
  have k122 : u2 122 = g 122 := F 122 (by decide)
  have k123 : u2 123 = g 123 := F 123 (by decide)
  have k125 : u2 125 = g 125 := F 125 (by decide)
  have k126 : u2 126 = g 126 := F 126 (by decide)
  have k127 : u2 127 = g 127 := F 127 (by decide)
  have k128 : u2 128 = g 128 := F 128 (by decide)
  have k129 : u2 129 = g 129 := F 129 (by decide)
  have k130 : u2 130 = g 130 := F 130 (by decide)
  have k131 : u2 131 = g 131 := F 131 (by decide)
  have k135 : u2 135 = g 135 := F 135 (by decide)
  have key : u2 65 = u2 132 ∧ u2 67 = u2 133 ∧ u2 68 = u2 134 ∧ r1.toInt = r2.toInt ∧ (∀ k, k < (g 3 0).toNat → u2 68 k < g 2 0) := by
    by_cases A : 2 ≤ p1.toInt ∧ p1.toInt ≤ 9
    · have a := c0.1 A; have b := m0.1 A
      obtain ⟨x1, x2, x3, x4⟩ := RGS_un (by omega) a b (fun i j hi hj => by unfold su_c su_m; rw [WR_b (hW.1 i hi)])
      exact ⟨by rw [k65, x2], by rw [k67, x3], by rw [k68, x4], x1, by rw [k68]; exact RGS_b a (fun y hy => (G9 y hy).2.1) (fun x hx => by have := G9 x hx; omega)⟩
    · obtain ⟨a1, a2, a3, a4⟩ := c0.2 A
      obtain ⟨b1, b2, b3, b4⟩ := m0.2 A
      exact ⟨by rw [k65, a2, b2], by rw [k67, a3, b3], by rw [k68, a4, b4], by rw [a1, b1], fun k hk => by rw [k68, a4]; have := G9 k hk; omega⟩
  obtain ⟨q65, q67, q68, qr, q9⟩ := key
  refine ⟨⟨?_, ?_, ?_, ?_, ?_, ?_, ?_, ?_⟩, ?_⟩
  · exact RC_cg hC (fun c hc => F c ((show ∀ c, c ∈ ([1, 2, 3, 4, 5, 6, 14, 18, 33, 34, 35, 101, 104, 111, 112, 114, 118, 121, 122, 126] : List Nat) → c ∉ ([7, 8, 46, 65, 67, 68, 83, 84, 85, 86, 100, 132, 133, 134, 136, 137, 138, 139, 140, 141, 142, 143] : List Nat) by decide) c hc))
  · exact RO_cg hO (fun c hc => F c ((show ∀ c, c ∈ ([2, 50, 51, 52, 54, 56, 105, 106, 107, 108] : List Nat) → c ∉ ([7, 8, 46, 65, 67, 68, 83, 84, 85, 86, 100, 132, 133, 134, 136, 137, 138, 139, 140, 141, 142, 143] : List Nat) by decide) c hc))
  · exact RF_cg hF (fun c hc => F c ((show ∀ c, c ∈ ([1, 2, 41, 42, 43, 44, 53, 102, 103, 109, 110] : List Nat) → c ∉ ([7, 8, 46, 65, 67, 68, 83, 84, 85, 86, 100, 132, 133, 134, 136, 137, 138, 139, 140, 141, 142, 143] : List Nat) by decide) c hc))
  · exact ⟨by rw [k60, k127]; exact e60, by rw [k61, k128]; exact e61, by rw [k62, k129]; exact e62, by rw [k63, k130]; exact e63, by rw [k64, k131]; exact e64, q65, q67, q68, fun k hk => by rw [k3] at hk; have h8 := q9 k hk; rw [k1, k2, k4, k60, k61, k62, k63, k64]; have := G9 k hk; omega⟩
  · exact RT_cg hT (fun c hc => F c ((show ∀ c, c ∈ ([1, 3, 4, 45, 61, 62, 63] : List Nat) → c ∉ ([7, 8, 46, 65, 67, 68, 83, 84, 85, 86, 100, 132, 133, 134, 136, 137, 138, 139, 140, 141, 142, 143] : List Nat) by decide) c hc))
  · exact RW_cg hW (fun c hc => F c ((show ∀ c, c ∈ ([3, 56, 66, 135] : List Nat) → c ∉ ([7, 8, 46, 65, 67, 68, 83, 84, 85, 86, 100, 132, 133, 134, 136, 137, 138, 139, 140, 141, 142, 143] : List Nat) by decide) c hc))
  · exact RR_cg hR (fun c hc => F c ((show ∀ c, c ∈ ([11, 12, 13, 80, 81, 82, 122, 123, 125] : List Nat) → c ∉ ([7, 8, 46, 65, 67, 68, 83, 84, 85, 86, 100, 132, 133, 134, 136, 137, 138, 139, 140, 141, 142, 143] : List Nat) by decide) c hc))
  · exact ⟨by rw [k86]; exact c1, by rw [k113, k19]; exact hS.2⟩
  · exact qr

theorem st_rush {g u1 u2 : gh} {r1 r2  : Int32} (h : RLA g) (f1 : ∀ c, c ∉ ([51, 52, 55, 56, 65, 68] : List Nat) → u1 c = g c) (f2 : ∀ c, c ∉ ([100, 106, 107, 132, 134, 135, 144, 145] : List Nat) → u2 c = u1 c)
    (c0 : (u1 51, u1 52, u1 55, u1 56, u1 65, u1 68, r1.toInt) = ru_f (g 64) (g 61) (g 62) (g 41) (g 42) ((g 3) 0).toNat ((g 2) 0).toNat (g 2 0).toNat (g 51, g 52, il_f (g 55) (g 56) (g 2 0).toNat, g 56, g 65, g 68, 0))
    (m0 : (u2 106, u2 107, u2 144, u2 135, u2 132, u2 134, r2.toInt) = rm_f (u1 131) (u1 128) (u1 129) (u1 102) (u1 103) (u1 108) (lk_f (u1 145) (u1 107) (u1 104 0).toNat) (u1 126 0).toNat (u1 104 0).toNat (u1 104 0).toNat (u1 106, u1 107, fz (u1 144) 0 0 (u1 104 0).toNat, u1 135, u1 132, u1 134, 0)) : RLA u2 ∧ r1.toInt = r2.toInt := by
  obtain ⟨hC, hO, hF, hG, hT, hW, hR, hS⟩ := h
  have F : ∀ c, c ∉ ([51, 52, 55, 56, 65, 68, 100, 106, 107, 132, 134, 135, 144, 145] : List Nat) → u2 c = g c := fun c hc => by rw [f2 c (fun q => hc ((show ∀ c, c ∈ ([100, 106, 107, 132, 134, 135, 144, 145] : List Nat) → c ∈ ([51, 52, 55, 56, 65, 68, 100, 106, 107, 132, 134, 135, 144, 145] : List Nat) by decide) c q)), f1 c (fun q => hc ((show ∀ c, c ∈ ([51, 52, 55, 56, 65, 68] : List Nat) → c ∈ ([51, 52, 55, 56, 65, 68, 100, 106, 107, 132, 134, 135, 144, 145] : List Nat) by decide) c q))]
  have ⟨C1, C2, C3, C4, C5, C6, C14, C18, C33, C34, C35, C1a, C1b, C2a, C2b, C3a, C3b, C5a, C5b, C4a, C6a, C6b, C22a, C22b⟩ := hC
  have ⟨e50, e51, e52, e54, O5, O6⟩ := hO
  have ⟨e41, e42, e43, e44, F5, F6, F7, F8⟩ := hF
  have ⟨e60, e61, e62, e63, e64, e65, e67, e68, G9⟩ := hG
  rw [f1 131 (by decide), f1 128 (by decide), f1 129 (by decide), f1 102 (by decide), f1 103 (by decide), f1 108 (by decide), f1 145 (by decide), f1 107 (by decide), f1 104 (by decide), f1 126 (by decide), f1 106 (by decide), f1 144 (by decide), f1 135 (by decide), f1 132 (by decide), f1 134 (by decide), ← e64, ← e61, ← e62, ← e41, ← e42, ← e54, ← e52, ← e51, ← e65, ← e68, C2, C3] at m0
  have k51 : u2 51 = u1 51 := f2 51 (by decide)
  have k52 : u2 52 = u1 52 := f2 52 (by decide)
  have k55 : u2 55 = u1 55 := f2 55 (by decide)
  have k56 : u2 56 = u1 56 := f2 56 (by decide)
  have k65 : u2 65 = u1 65 := f2 65 (by decide)
  have k68 : u2 68 = u1 68 := f2 68 (by decide)
  have k1 : u2 1 = g 1 := F 1 (by decide)
  have k2 : u2 2 = g 2 := F 2 (by decide)
  have k3 : u2 3 = g 3 := F 3 (by decide)
  have k4 : u2 4 = g 4 := F 4 (by decide)
  have k5 : u2 5 = g 5 := F 5 (by decide)
  have k6 : u2 6 = g 6 := F 6 (by decide)
  have k11 : u2 11 = g 11 := F 11 (by decide)
  have k12 : u2 12 = g 12 := F 12 (by decide)
  have k13 : u2 13 = g 13 := F 13 (by decide)
  have k14 : u2 14 = g 14 := F 14 (by decide)
  have k18 : u2 18 = g 18 := F 18 (by decide)
  have k19 : u2 19 = g 19 := F 19 (by decide)
  have k33 : u2 33 = g 33 := F 33 (by decide)
  have k34 : u2 34 = g 34 := F 34 (by decide)
  have k35 : u2 35 = g 35 := F 35 (by decide)
  have k41 : u2 41 = g 41 := F 41 (by decide)
  have k42 : u2 42 = g 42 := F 42 (by decide)
  have k43 : u2 43 = g 43 := F 43 (by decide)
  have k44 : u2 44 = g 44 := F 44 (by decide)
  have k45 : u2 45 = g 45 := F 45 (by decide)
  have k50 : u2 50 = g 50 := F 50 (by decide)
  have k53 : u2 53 = g 53 := F 53 (by decide)
  have k54 : u2 54 = g 54 := F 54 (by decide)
  have k60 : u2 60 = g 60 := F 60 (by decide)
  have k61 : u2 61 = g 61 := F 61 (by decide)
  have k62 : u2 62 = g 62 := F 62 (by decide)
  have k63 : u2 63 = g 63 := F 63 (by decide)
  have k64 : u2 64 = g 64 := F 64 (by decide)
  have k66 : u2 66 = g 66 := F 66 (by decide)
  have k67 : u2 67 = g 67 := F 67 (by decide)
  have k80 : u2 80 = g 80 := F 80 (by decide)
  have k81 : u2 81 = g 81 := F 81 (by decide)
  have k82 : u2 82 = g 82 := F 82 (by decide)
  have k86 : u2 86 = g 86 := F 86 (by decide)
  have k101 : u2 101 = g 101 := F 101 (by decide)
  have k102 : u2 102 = g 102 := F 102 (by decide)
  have k103 : u2 103 = g 103 := F 103 (by decide)
  have k104 : u2 104 = g 104 := F 104 (by decide)
  have k105 : u2 105 = g 105 := F 105 (by decide)
  have k108 : u2 108 = g 108 := F 108 (by decide)
  have k109 : u2 109 = g 109 := F 109 (by decide)
  have k110 : u2 110 = g 110 := F 110 (by decide)
  have k111 : u2 111 = g 111 := F 111 (by decide)
  have k112 : u2 112 = g 112 := F 112 (by decide)
  have k113 : u2 113 = g 113 := F 113 (by decide)
  have k114 : u2 114 = g 114 := F 114 (by decide)
  have k118 : u2 118 = g 118 := F 118 (by decide)
  have k121 : u2 121 = g 121 := F 121 (by decide)
  have k122 : u2 122 = g 122 := F 122 (by decide)
  have k123 : u2 123 = g 123 := F 123 (by decide)
  have k125 : u2 125 = g 125 := F 125 (by decide)
  have k126 : u2 126 = g 126 := F 126 (by decide)
  have k127 : u2 127 = g 127 := F 127 (by decide)
  have k128 : u2 128 = g 128 := F 128 (by decide)
  have k129 : u2 129 = g 129 := F 129 (by decide)
  have k130 : u2 130 = g 130 := F 130 (by decide)
  have k131 : u2 131 = g 131 := F 131 (by decide)
  have k133 : u2 133 = g 133 := F 133 (by decide)
  have sim := ru_sim (wo := g 64) (fl := g 61) (we := g 62) (tw := g 41) (si := g 42) (de := g 54) (lu := lk_f (g 145) (g 52) (g 2 0).toNat) (G := (g 3 0).toNat) (N := (g 2 0).toNat) (by omega) (g 2 0).toNat (g 51) (g 52) (il_f (g 55) (g 56) (g 2 0).toNat) (fz (g 144) 0 0 (g 2 0).toNat) (g 56) (g 135) (g 65) (g 68) 0 (fun o ho => by
    have x := hW.2 o (by omega); have y := O6 o
    have z : il_f (g 55) (g 56) (g 2 0).toNat o = if 0 ≤ g 56 o then 1 else 0 := by unfold il_f; rw [if_pos ho]
    refine ⟨?_, fun _ => by unfold lk_f; rw [if_pos ho]⟩
    have fzz : fz (g 144) 0 0 (g 2 0).toNat o = 0 := by rw [fz_at, if_pos (by omega)]
    rw [z]; unfold rl_f; rw [fzz]
    by_cases c : 0 ≤ g 56 o
    · have d : g 54 o = 0 := Classical.byContradiction (fun q => by have := y q; omega)
      rw [if_pos c, if_pos ⟨rfl, d, x.1.mp c⟩]
    · rw [if_neg c, if_neg (fun q => c (x.1.mpr q.2.2))]) hW.2
  have rb := ru_b (wo := g 64) (fl := g 61) (we := g 62) (tw := g 41) (si := g 42) (G := (g 3 0).toNat) (N := (g 2 0).toNat) (g 2 0).toNat (g 51, g 52, il_f (g 55) (g 56) (g 2 0).toNat, g 56, g 65, g 68, 0)
  rw [← c0, ← m0] at sim
  rw [← c0] at rb
  obtain ⟨s1, s2, s3, s4, s5, s6, s7⟩ := sim
  have t65 := congrArg Prod.fst s3
  have t68 := congrArg (fun q => q.2.1) s3
  have tr := congrArg (fun q => q.2.2) s3
  simp only at s1 s2 s3 s4 s5 s6 s7 t65 t68 tr rb
  refine ⟨⟨?_, ?_, ?_, ?_, ?_, ?_, ?_, ?_⟩, ?_⟩
  · exact RC_cg hC (fun c hc => F c ((show ∀ c, c ∈ ([1, 2, 3, 4, 5, 6, 14, 18, 33, 34, 35, 101, 104, 111, 112, 114, 118, 121, 122, 126] : List Nat) → c ∉ ([51, 52, 55, 56, 65, 68, 100, 106, 107, 132, 134, 135, 144, 145] : List Nat) by decide) c hc))
  · exact ⟨by rw [k50, k105]; exact e50, by rw [k51]; exact s1, by rw [k52]; exact s2, by rw [k54, k108]; exact e54, fun n hn => by rw [k2] at hn; rw [k51, k52, k54, k56]; obtain ⟨x, y, z⟩ := s7 n hn; obtain ⟨x', y', z', w'⟩ := O5 n hn; exact ⟨by rw [x]; exact x', by rw [y]; exact y', z', by rw [z]; exact w'⟩, fun n hn => by rw [k54] at hn; rw [k56]; have := O6 n hn; rcases s6 n with q | q <;> omega⟩
  · exact RF_cg hF (fun c hc => F c ((show ∀ c, c ∈ ([1, 2, 41, 42, 43, 44, 53, 102, 103, 109, 110] : List Nat) → c ∉ ([51, 52, 55, 56, 65, 68, 100, 106, 107, 132, 134, 135, 144, 145] : List Nat) by decide) c hc))
  · exact ⟨by rw [k60, k127]; exact e60, by rw [k61, k128]; exact e61, by rw [k62, k129]; exact e62, by rw [k63, k130]; exact e63, by rw [k64, k131]; exact e64, by rw [k65]; exact t65, by rw [k67, k133]; exact e67, by rw [k68]; exact t68, fun k hk => by rw [k3] at hk; have h8 := rb k; rw [k1, k2, k4, k60, k61, k62, k63, k64, k68]; have := G9 k hk; omega⟩
  · exact RT_cg hT (fun c hc => F c ((show ∀ c, c ∈ ([1, 3, 4, 45, 61, 62, 63] : List Nat) → c ∉ ([51, 52, 55, 56, 65, 68, 100, 106, 107, 132, 134, 135, 144, 145] : List Nat) by decide) c hc))
  · unfold RW; rw [k3, k66, k56]; exact ⟨fun k hk => WR_cg (hW.1 k hk) (fun j h1 h2 => s5 j (by omega)), s4⟩
  · exact RR_cg hR (fun c hc => F c ((show ∀ c, c ∈ ([11, 12, 13, 80, 81, 82, 122, 123, 125] : List Nat) → c ∉ ([51, 52, 55, 56, 65, 68, 100, 106, 107, 132, 134, 135, 144, 145] : List Nat) by decide) c hc))
  · exact RS_cg hS (fun c hc => F c ((show ∀ c, c ∈ ([19, 86, 113] : List Nat) → c ∉ ([51, 52, 55, 56, 65, 68, 100, 106, 107, 132, 134, 135, 144, 145] : List Nat) by decide) c hc))
  · exact tr

theorem pq_c_off {T : Nat → Int} {N o ii j i : Nat} (hj : j < o ∨ o + 53 ≤ j) (hi : i ≠ ii) : ∀ (m : Nat) (c : Int) (x : pz_T) (s : pl_T), (pq_c T N o ii m c x s).1 j = s.1 j ∧ (pq_c T N o ii m c x s).2.1 j = s.2.1 j ∧ (pq_c T N o ii m c x s).2.2.1 j = s.2.2.1 j ∧ (pq_c T N o ii m c x s).2.2.2 i = s.2.2.2 i := by
  intro m
  induction m with
  | zero => intro c x s; exact ⟨rfl, rfl, rfl, rfl⟩
  | succ m ih =>
    intro c x s
    by_cases h : x.2.2.1 ≠ 0 ∧ x.2.2.2.2.1 = 0
    · have e : pq_c T N o ii (m + 1) c x s = pq_c T N o ii m (c + 1) (pz_st T N c x) (st_S T N o c x s.1, st_Z T N o c x s.2.1, st_E T N o c x s.2.2.1, st_H T N ii c x s.2.2.2) := if_pos h
      rw [e]
      obtain ⟨a1, a2, a3, a4⟩ := ih (c + 1) (pz_st T N c x) (st_S T N o c x s.1, st_Z T N o c x s.2.1, st_E T N o c x s.2.2.1, st_H T N ii c x s.2.2.2)
      refine ⟨a1.trans ?_, a2.trans ?_, a3.trans ?_, a4.trans ?_⟩
      · show st_S T N o c x s.1 j = _
        unfold st_S
        split
        · rfl
        · unfold cs_S
          split
          · unfold sn_f; rw [fz_at, if_neg (by unfold sn_m mx0; omega)]
          · rfl
      · show st_Z T N o c x s.2.1 j = _
        unfold st_Z
        split
        · rfl
        · unfold cs_Z
          split
          · unfold sz_f
            split
            · exact pz_up_n (by omega)
            · rfl
          · rfl
      · show st_E T N o c x s.2.2.1 j = _
        unfold st_E
        split
        · rfl
        · unfold cs_E
          split
          · unfold se_f
            split
            · exact pz_up_n (by omega)
            · rfl
          · rfl
      · show st_H T N ii c x s.2.2.2 i = _
        unfold st_H
        split
        · rfl
        · unfold cs_H
          split
          · rfl
          · exact pz_up_n hi
    · have e : pq_c T N o ii (m + 1) c x s = s := if_neg h
      rw [e]; exact ⟨rfl, rfl, rfl, rfl⟩

theorem st_rules {g u1 u2 : gh} {T : Nat → Int} {N9 : Nat} {r1 r2  : Int32} (h : RLA g) (f1 : ∀ c, c ∉ ([6, 9, 10, 11, 12, 13, 14, 15, 16, 17, 18, 80, 81, 82] : List Nat) → u1 c = g c) (f2 : ∀ c, c ∉ ([100, 114, 115, 116, 117, 118, 119, 120, 121, 122, 123, 124, 125] : List Nat) → u2 c = u1 c)
    (c0 : u1 6 0 = 0)
    (c1 : r1.toInt = pz_res (pz_Z T N9 (g 18 0)) ∧ u1 14 0 = (pz_Z T N9 (g 18 0)).1.2.2.2.2.2 ∧ u1 18 0 = (pz_Z T N9 (g 18 0)).1.2.2.2.1)
    (c2 : (u1 80, u1 81, u1 82, u1 11) = pq_c T N9 (64 * (g 12 0).toNat) (g 12 0).toNat 31 0 (pz_nx T N9 (0, 0, 0, g 18 0, 0, -1)) (fz (g 80) (64 * (g 12 0).toNat) 0 53, fz (g 81) (64 * (g 12 0).toNat) 0 5, fz (g 82) (64 * (g 12 0).toNat) (-1) 53, pz_up (g 11) (g 12 0).toNat 0))
    (c3 : ((pz_Z T N9 (g 18 0)).1.2.2.2.2.1 = 0 → u1 13 0 = g 12 0 ∧ u1 12 0 = g 13 0) ∧ ((pz_Z T N9 (g 18 0)).1.2.2.2.2.1 ≠ 0 → u1 13 0 = g 13 0 ∧ u1 12 0 = g 12 0))
    (m0 : u2 114 0 = 0)
    (m1 : (u2 122 0 = u1 122 0) ∨ (0 ≤ u2 122 0 ∧ u2 122 0 ≤ 30))
    (m2 : u2 121 0 = u2 121 0)
    (m3 : r2.toInt = pz_res (pz_Z T N9 (u1 118 0)) ∧ u2 121 0 = (pz_Z T N9 (u1 118 0)).1.2.2.2.2.2 ∧ u2 118 0 = (pz_Z T N9 (u1 118 0)).1.2.2.2.1)
    (m4 : u2 125 = pq_m T N9 31 0 (pz_nx T N9 (0, 0, 0, u1 118 0, 0, -1)) (u1 125))
    (m5 : ((pz_Z T N9 (u1 118 0)).1.2.2.2.2.1 = 0 → u2 123 = lk_f (u1 123) (pq_m T N9 31 0 (pz_nx T N9 (0, 0, 0, u1 118 0, 0, -1)) (u1 125)) 120 ∧ u2 122 0 = (pz_Z T N9 (u1 118 0)).2) ∧ ((pz_Z T N9 (u1 118 0)).1.2.2.2.2.1 ≠ 0 → u2 123 = u1 123 ∧ u2 122 0 = u1 122 0)) : RLA u2 ∧ r1.toInt = r2.toInt := by
  obtain ⟨hC, hO, hF, hG, hT, hW, hR, hS⟩ := h
  have F : ∀ c, c ∉ ([6, 9, 10, 11, 12, 13, 14, 15, 16, 17, 18, 80, 81, 82, 100, 114, 115, 116, 117, 118, 119, 120, 121, 122, 123, 124, 125] : List Nat) → u2 c = g c := fun c hc => by rw [f2 c (fun q => hc ((show ∀ c, c ∈ ([100, 114, 115, 116, 117, 118, 119, 120, 121, 122, 123, 124, 125] : List Nat) → c ∈ ([6, 9, 10, 11, 12, 13, 14, 15, 16, 17, 18, 80, 81, 82, 100, 114, 115, 116, 117, 118, 119, 120, 121, 122, 123, 124, 125] : List Nat) by decide) c q)), f1 c (fun q => hc ((show ∀ c, c ∈ ([6, 9, 10, 11, 12, 13, 14, 15, 16, 17, 18, 80, 81, 82] : List Nat) → c ∈ ([6, 9, 10, 11, 12, 13, 14, 15, 16, 17, 18, 80, 81, 82, 100, 114, 115, 116, 117, 118, 119, 120, 121, 122, 123, 124, 125] : List Nat) by decide) c q))]
  have ⟨C1, C2, C3, C4, C5, C6, C14, C18, C33, C34, C35, C1a, C1b, C2a, C2b, C3a, C3b, C5a, C5b, C4a, C6a, C6b, C22a, C22b⟩ := hC
  have ⟨e50, e51, e52, e54, O5, O6⟩ := hO
  have ⟨e41, e42, e43, e44, F5, F6, F7, F8⟩ := hF
  have ⟨e60, e61, e62, e63, e64, e65, e67, e68, G9⟩ := hG
  rw [f1 122 (by decide)] at m1
  rw [f1 118 (by decide), C18] at m3
  rw [f1 118 (by decide), f1 125 (by decide), C18] at m4
  rw [f1 118 (by decide), f1 123 (by decide), f1 125 (by decide), f1 122 (by decide), C18] at m5
  have k6 : u2 6 = u1 6 := f2 6 (by decide)
  have k9 : u2 9 = u1 9 := f2 9 (by decide)
  have k10 : u2 10 = u1 10 := f2 10 (by decide)
  have k11 : u2 11 = u1 11 := f2 11 (by decide)
  have k12 : u2 12 = u1 12 := f2 12 (by decide)
  have k13 : u2 13 = u1 13 := f2 13 (by decide)
  have k14 : u2 14 = u1 14 := f2 14 (by decide)
  have k15 : u2 15 = u1 15 := f2 15 (by decide)
  have k16 : u2 16 = u1 16 := f2 16 (by decide)
  have k17 : u2 17 = u1 17 := f2 17 (by decide)
  have k18 : u2 18 = u1 18 := f2 18 (by decide)
  have k80 : u2 80 = u1 80 := f2 80 (by decide)
  have k81 : u2 81 = u1 81 := f2 81 (by decide)
  have k82 : u2 82 = u1 82 := f2 82 (by decide)
  have k1 : u2 1 = g 1 := F 1 (by decide)
  have k2 : u2 2 = g 2 := F 2 (by decide)
  have k3 : u2 3 = g 3 := F 3 (by decide)
  have k4 : u2 4 = g 4 := F 4 (by decide)
  have k5 : u2 5 = g 5 := F 5 (by decide)
  have k19 : u2 19 = g 19 := F 19 (by decide)
  have k33 : u2 33 = g 33 := F 33 (by decide)
  have k34 : u2 34 = g 34 := F 34 (by decide)
  have k35 : u2 35 = g 35 := F 35 (by decide)
  have k41 : u2 41 = g 41 := F 41 (by decide)
  have k42 : u2 42 = g 42 := F 42 (by decide)
  have k43 : u2 43 = g 43 := F 43 (by decide)
  have k44 : u2 44 = g 44 := F 44 (by decide)
  have k45 : u2 45 = g 45 := F 45 (by decide)
  have k50 : u2 50 = g 50 := F 50 (by decide)
  have k51 : u2 51 = g 51 := F 51 (by decide)
  have k52 : u2 52 = g 52 := F 52 (by decide)
  have k53 : u2 53 = g 53 := F 53 (by decide)
  have k54 : u2 54 = g 54 := F 54 (by decide)
  have k56 : u2 56 = g 56 := F 56 (by decide)
  have k60 : u2 60 = g 60 := F 60 (by decide)
  have k61 : u2 61 = g 61 := F 61 (by decide)
  have k62 : u2 62 = g 62 := F 62 (by decide)
  have k63 : u2 63 = g 63 := F 63 (by decide)
  have k64 : u2 64 = g 64 := F 64 (by decide)
  have k65 : u2 65 = g 65 := F 65 (by decide)
  have k66 : u2 66 = g 66 := F 66 (by decide)
  have k67 : u2 67 = g 67 := F 67 (by decide)
  have k68 : u2 68 = g 68 := F 68 (by decide)
  have k86 : u2 86 = g 86 := F 86 (by decide)
  have k101 : u2 101 = g 101 := F 101 (by decide)
  have k102 : u2 102 = g 102 := F 102 (by decide)
  have k103 : u2 103 = g 103 := F 103 (by decide)
  have k104 : u2 104 = g 104 := F 104 (by decide)
  have k105 : u2 105 = g 105 := F 105 (by decide)
  have k106 : u2 106 = g 106 := F 106 (by decide)
  have k107 : u2 107 = g 107 := F 107 (by decide)
  have k108 : u2 108 = g 108 := F 108 (by decide)
  have k109 : u2 109 = g 109 := F 109 (by decide)
  have k110 : u2 110 = g 110 := F 110 (by decide)
  have k111 : u2 111 = g 111 := F 111 (by decide)
  have k112 : u2 112 = g 112 := F 112 (by decide)
  have k113 : u2 113 = g 113 := F 113 (by decide)
  have k126 : u2 126 = g 126 := F 126 (by decide)
  have k127 : u2 127 = g 127 := F 127 (by decide)
  have k128 : u2 128 = g 128 := F 128 (by decide)
  have k129 : u2 129 = g 129 := F 129 (by decide)
  have k130 : u2 130 = g 130 := F 130 (by decide)
  have k131 : u2 131 = g 131 := F 131 (by decide)
  have k132 : u2 132 = g 132 := F 132 (by decide)
  have k133 : u2 133 = g 133 := F 133 (by decide)
  have k134 : u2 134 = g 134 := F 134 (by decide)
  have k135 : u2 135 = g 135 := F 135 (by decide)
  have hb : 0 ≤ u2 122 0 ∧ u2 122 0 ≤ 30 := by omega
  obtain ⟨c1r, c14, c18⟩ := c1
  obtain ⟨m1r, m121, m118⟩ := m3
  have d80 : u1 80 = _ := congrArg (fun q => q.1) c2
  have d81 : u1 81 = _ := congrArg (fun q => q.2.1) c2
  have d82 : u1 82 = _ := congrArg (fun q => q.2.2.1) c2
  have d11 : u1 11 = _ := congrArg (fun q => q.2.2.2) c2
  have rg := pl_rg (T := T) (N := N9) 31 0 (pz_nx T N9 (0, 0, 0, g 18 0, 0, -1)) (g 125) hR.2.2.2.2
  rw [show ((0 : Nat) : Int) = 0 from rfl, ← m4] at rg
  have key : RR u2 := by
    obtain ⟨R1, R2, R3, R4, R5⟩ := hR
    by_cases A : (pz_Z T N9 (g 18 0)).1.2.2.2.2.1 = 0
    · obtain ⟨a13, a12⟩ := c3.1 A
      obtain ⟨b123, b122⟩ := m5.1 A
      rw [← m4] at b123
      obtain ⟨c', y1, y2⟩ := pl_rel (T := T) (N := N9) (o := (64 * (g 12 0).toNat)) (ii := (g 12 0).toNat) 31 0 (pz_nx T N9 (0, 0, 0, g 18 0, 0, -1)) (fz (g 80) (64 * (g 12 0).toNat) 0 53) (fz (g 81) (64 * (g 12 0).toNat) 0 5) (fz (g 82) (64 * (g 12 0).toNat) (-1) 53) (pz_up (g 11) (g 12 0).toNat 0) (g 125) ⟨fun w hw => by rw [fz_at, if_pos (by omega)]; rfl, fun s h1 h2 => by rw [fz_at, if_pos (by omega)]; rfl, fun a ha => by rw [fz_at, if_pos (by omega)]; rfl, by rw [pz_up_s]; rfl⟩ A
      rw [show ((0 : Nat) : Int) = 0 from rfl] at y1 y2
      rw [← c2, ← m4] at y2
      have y3 : u2 122 0 = (c' : Int) := by rw [b122]; exact y1
      refine ⟨by rw [k13, a13]; omega, by rw [k12, k13, a12, a13]; omega, ?_, ?_, rg⟩
      · rw [k13, a13, k80, k81, k82, k11]
        exact BLK_cg (r := u2 125) (n := (u2 122 0).toNat) (by rw [y3, Int.toNat_natCast]; exact y2) (fun _ _ => rfl) (fun _ _ => rfl) (fun _ _ => rfl) rfl (fun j hj => by rw [b123]; unfold lk_f; rw [if_pos (by omega)])
      · rw [b123]
        refine ⟨fun j => ?_, fun k hk => ?_⟩
        · unfold lk_f; split
          · exact rg.1 j
          · exact R4.1 j
        · unfold lk_f at hk ⊢
          by_cases q : 4 * k < 120
          · rw [if_pos q] at hk; rw [if_pos (by omega)]; exact rg.2 k hk
          · rw [if_neg q] at hk; rw [if_neg (by omega)]; exact R4.2 k hk
    · obtain ⟨a13, a12⟩ := c3.2 A
      obtain ⟨b123, b122⟩ := m5.2 A
      have off := fun j i (hj : j < (64 * (g 12 0).toNat) ∨ (64 * (g 12 0).toNat) + 53 ≤ j) (hi : i ≠ (g 12 0).toNat) => pq_c_off (T := T) (N := N9) (o := (64 * (g 12 0).toNat)) (ii := (g 12 0).toNat) (j := j) (i := i) hj hi 31 0 (pz_nx T N9 (0, 0, 0, g 18 0, 0, -1)) (fz (g 80) (64 * (g 12 0).toNat) 0 53, fz (g 81) (64 * (g 12 0).toNat) 0 5, fz (g 82) (64 * (g 12 0).toNat) (-1) 53, pz_up (g 11) (g 12 0).toNat 0)
      rw [← c2] at off
      simp only at off
      refine ⟨by rw [k13, a13]; omega, by rw [k12, k13, a12, a13]; omega, ?_, by rw [b123]; exact R4, rg⟩
      rw [k13, a13, k80, k81, k82, k11, b123, b122]
      refine BLK_cg R3 (fun w hw => ?_) (fun s hs => ?_) (fun a ha => ?_) ?_ (fun _ _ => rfl)
      · rw [(off (64 * (g 13 0).toNat + w) (g 13 0).toNat (by omega) (by omega)).1, fz_at, if_neg (by omega)]
      · rw [(off (64 * (g 13 0).toNat + s) (g 13 0).toNat (by omega) (by omega)).2.1, fz_at, if_neg (by omega)]
      · rw [(off (64 * (g 13 0).toNat + a) (g 13 0).toNat (by omega) (by omega)).2.2.1, fz_at, if_neg (by omega)]
      · rw [(off (64 * (g 13 0).toNat) (g 13 0).toNat (by omega) (by omega)).2.2.2, pz_up_n (by omega)]
  refine ⟨⟨?_, ?_, ?_, ?_, ?_, ?_, ?_, ?_⟩, ?_⟩
  · unfold RC; rw [k101, k1, k104, k2, k126, k3, k111, k4, k112, k5, k33, k34, k35, k6, k14, k18, c0, m0, c14, c18, m121, m118]; exact ⟨C1, C2, C3, C4, C5, rfl, rfl, rfl, C33, C34, C35, C1a, C1b, C2a, C2b, C3a, C3b, C5a, C5b, C4a, by omega, by omega, hb.1, hb.2⟩
  · exact RO_cg hO (fun c hc => F c ((show ∀ c, c ∈ ([2, 50, 51, 52, 54, 56, 105, 106, 107, 108] : List Nat) → c ∉ ([6, 9, 10, 11, 12, 13, 14, 15, 16, 17, 18, 80, 81, 82, 100, 114, 115, 116, 117, 118, 119, 120, 121, 122, 123, 124, 125] : List Nat) by decide) c hc))
  · exact RF_cg hF (fun c hc => F c ((show ∀ c, c ∈ ([1, 2, 41, 42, 43, 44, 53, 102, 103, 109, 110] : List Nat) → c ∉ ([6, 9, 10, 11, 12, 13, 14, 15, 16, 17, 18, 80, 81, 82, 100, 114, 115, 116, 117, 118, 119, 120, 121, 122, 123, 124, 125] : List Nat) by decide) c hc))
  · exact RG_cg hG (fun c hc => F c ((show ∀ c, c ∈ ([1, 2, 3, 4, 60, 61, 62, 63, 64, 65, 67, 68, 127, 128, 129, 130, 131, 132, 133, 134] : List Nat) → c ∉ ([6, 9, 10, 11, 12, 13, 14, 15, 16, 17, 18, 80, 81, 82, 100, 114, 115, 116, 117, 118, 119, 120, 121, 122, 123, 124, 125] : List Nat) by decide) c hc))
  · exact RT_cg hT (fun c hc => F c ((show ∀ c, c ∈ ([1, 3, 4, 45, 61, 62, 63] : List Nat) → c ∉ ([6, 9, 10, 11, 12, 13, 14, 15, 16, 17, 18, 80, 81, 82, 100, 114, 115, 116, 117, 118, 119, 120, 121, 122, 123, 124, 125] : List Nat) by decide) c hc))
  · exact RW_cg hW (fun c hc => F c ((show ∀ c, c ∈ ([3, 56, 66, 135] : List Nat) → c ∉ ([6, 9, 10, 11, 12, 13, 14, 15, 16, 17, 18, 80, 81, 82, 100, 114, 115, 116, 117, 118, 119, 120, 121, 122, 123, 124, 125] : List Nat) by decide) c hc))
  · exact key
  · exact RS_cg hS (fun c hc => F c ((show ∀ c, c ∈ ([19, 86, 113] : List Nat) → c ∉ ([6, 9, 10, 11, 12, 13, 14, 15, 16, 17, 18, 80, 81, 82, 100, 114, 115, 116, 117, 118, 119, 120, 121, 122, 123, 124, 125] : List Nat) by decide) c hc))
  · rw [c1r, m1r]

theorem st_feed {g u1 u2 : gh} {r1 r2 p1 p2 p3 p4 p5 : Int32} (h : RLA g) (f1 : ∀ c, c ∉ ([6, 19] : List Nat) → u1 c = g c) (f2 : ∀ c, c ∉ ([100, 113, 114] : List Nat) → u2 c = u1 c)
    (c0 : g 6 0 ≤ 280 → r1.toInt = g 6 0 + 20 ∧ u1 6 0 = g 6 0 + 20)
    (c1 : 280 < g 6 0 → r1.toInt = -1 ∧ u1 6 0 = g 6 0)
    (c2 : (g 6 0 ≤ 280 → u1 19 = pz_fk (g 19) (g 6 0).toNat p1 p2 p3 p4 p5 20) ∧ (280 < g 6 0 → u1 19 = g 19))
    (m0 : u1 114 0 ≤ 280 → r2.toInt = u1 114 0 + 20 ∧ u2 114 0 = u1 114 0 + 20)
    (m1 : 280 < u1 114 0 → r2.toInt = -1 ∧ u2 114 0 = u1 114 0)
    (m2 : (u1 114 0 ≤ 280 → pz_t u2 = pz_fk (pz_t u1) (u1 114 0).toNat p1 p2 p3 p4 p5 20) ∧ (280 < u1 114 0 → pz_t u2 = pz_t u1)) : RLA u2 ∧ r1.toInt = r2.toInt := by
  obtain ⟨hC, hO, hF, hG, hT, hW, hR, hS⟩ := h
  have F : ∀ c, c ∉ ([6, 19, 100, 113, 114] : List Nat) → u2 c = g c := fun c hc => by rw [f2 c (fun q => hc ((show ∀ c, c ∈ ([100, 113, 114] : List Nat) → c ∈ ([6, 19, 100, 113, 114] : List Nat) by decide) c q)), f1 c (fun q => hc ((show ∀ c, c ∈ ([6, 19] : List Nat) → c ∈ ([6, 19, 100, 113, 114] : List Nat) by decide) c q))]
  have ⟨C1, C2, C3, C4, C5, C6, C14, C18, C33, C34, C35, C1a, C1b, C2a, C2b, C3a, C3b, C5a, C5b, C4a, C6a, C6b, C22a, C22b⟩ := hC
  have ⟨e50, e51, e52, e54, O5, O6⟩ := hO
  have ⟨e41, e42, e43, e44, F5, F6, F7, F8⟩ := hF
  have ⟨e60, e61, e62, e63, e64, e65, e67, e68, G9⟩ := hG
  rw [f1 114 (by decide), C6] at m0
  rw [f1 114 (by decide), C6] at m1
  rw [f1 114 (by decide), C6] at m2
  have k6 : u2 6 = u1 6 := f2 6 (by decide)
  have k19 : u2 19 = u1 19 := f2 19 (by decide)
  have k1 : u2 1 = g 1 := F 1 (by decide)
  have k2 : u2 2 = g 2 := F 2 (by decide)
  have k3 : u2 3 = g 3 := F 3 (by decide)
  have k4 : u2 4 = g 4 := F 4 (by decide)
  have k5 : u2 5 = g 5 := F 5 (by decide)
  have k11 : u2 11 = g 11 := F 11 (by decide)
  have k12 : u2 12 = g 12 := F 12 (by decide)
  have k13 : u2 13 = g 13 := F 13 (by decide)
  have k14 : u2 14 = g 14 := F 14 (by decide)
  have k18 : u2 18 = g 18 := F 18 (by decide)
  have k33 : u2 33 = g 33 := F 33 (by decide)
  have k34 : u2 34 = g 34 := F 34 (by decide)
  have k35 : u2 35 = g 35 := F 35 (by decide)
  have k41 : u2 41 = g 41 := F 41 (by decide)
  have k42 : u2 42 = g 42 := F 42 (by decide)
  have k43 : u2 43 = g 43 := F 43 (by decide)
  have k44 : u2 44 = g 44 := F 44 (by decide)
  have k45 : u2 45 = g 45 := F 45 (by decide)
  have k50 : u2 50 = g 50 := F 50 (by decide)
  have k51 : u2 51 = g 51 := F 51 (by decide)
  have k52 : u2 52 = g 52 := F 52 (by decide)
  have k53 : u2 53 = g 53 := F 53 (by decide)
  have k54 : u2 54 = g 54 := F 54 (by decide)
  have k56 : u2 56 = g 56 := F 56 (by decide)
  have k60 : u2 60 = g 60 := F 60 (by decide)
  have k61 : u2 61 = g 61 := F 61 (by decide)
  have k62 : u2 62 = g 62 := F 62 (by decide)
  have k63 : u2 63 = g 63 := F 63 (by decide)
  have k64 : u2 64 = g 64 := F 64 (by decide)
  have k65 : u2 65 = g 65 := F 65 (by decide)
  have k66 : u2 66 = g 66 := F 66 (by decide)
  have k67 : u2 67 = g 67 := F 67 (by decide)
  have k68 : u2 68 = g 68 := F 68 (by decide)
  have k80 : u2 80 = g 80 := F 80 (by decide)
  have k81 : u2 81 = g 81 := F 81 (by decide)
  have k82 : u2 82 = g 82 := F 82 (by decide)
  have k86 : u2 86 = g 86 := F 86 (by decide)
  have k101 : u2 101 = g 101 := F 101 (by decide)
  have k102 : u2 102 = g 102 := F 102 (by decide)
  have k103 : u2 103 = g 103 := F 103 (by decide)
  have k104 : u2 104 = g 104 := F 104 (by decide)
  have k105 : u2 105 = g 105 := F 105 (by decide)
  have k106 : u2 106 = g 106 := F 106 (by decide)
  have k107 : u2 107 = g 107 := F 107 (by decide)
  have k108 : u2 108 = g 108 := F 108 (by decide)
  have k109 : u2 109 = g 109 := F 109 (by decide)
  have k110 : u2 110 = g 110 := F 110 (by decide)
  have k111 : u2 111 = g 111 := F 111 (by decide)
  have k112 : u2 112 = g 112 := F 112 (by decide)
  have k118 : u2 118 = g 118 := F 118 (by decide)
  have k121 : u2 121 = g 121 := F 121 (by decide)
  have k122 : u2 122 = g 122 := F 122 (by decide)
  have k123 : u2 123 = g 123 := F 123 (by decide)
  have k125 : u2 125 = g 125 := F 125 (by decide)
  have k126 : u2 126 = g 126 := F 126 (by decide)
  have k127 : u2 127 = g 127 := F 127 (by decide)
  have k128 : u2 128 = g 128 := F 128 (by decide)
  have k129 : u2 129 = g 129 := F 129 (by decide)
  have k130 : u2 130 = g 130 := F 130 (by decide)
  have k131 : u2 131 = g 131 := F 131 (by decide)
  have k132 : u2 132 = g 132 := F 132 (by decide)
  have k133 : u2 133 = g 133 := F 133 (by decide)
  have k134 : u2 134 = g 134 := F 134 (by decide)
  have k135 : u2 135 = g 135 := F 135 (by decide)
  have hp : pz_t u1 = g 19 := by show (fun j => u1 113 j % 256) = g 19; rw [f1 113 (by decide)]; exact hS.2
  rw [hp] at m2
  have key : (u2 114 0 = u2 6 0 ∧ 0 ≤ u2 6 0 ∧ u2 6 0 ≤ 300) ∧ pz_t u2 = u2 19 ∧ r1.toInt = r2.toInt := by
    by_cases A : g 6 0 ≤ 280
    · have a := c0 A; have b := m0 A
      exact ⟨⟨by rw [k6]; omega, by rw [k6]; omega, by rw [k6]; omega⟩, by rw [k19, c2.1 A, m2.1 A], by omega⟩
    · have a := c1 (by omega); have b := m1 (by omega)
      exact ⟨⟨by rw [k6]; omega, by rw [k6]; omega, by rw [k6]; omega⟩, by rw [k19, c2.2 (by omega), m2.2 (by omega)], by omega⟩
  refine ⟨⟨?_, ?_, ?_, ?_, ?_, ?_, ?_, ?_⟩, ?_⟩
  · unfold RC; rw [k101, k1, k104, k2, k126, k3, k111, k4, k112, k5, k121, k14, k118, k18, k33, k34, k35, k122]; exact ⟨C1, C2, C3, C4, C5, key.1.1, C14, C18, C33, C34, C35, C1a, C1b, C2a, C2b, C3a, C3b, C5a, C5b, C4a, key.1.2.1, key.1.2.2, C22a, C22b⟩
  · exact RO_cg hO (fun c hc => F c ((show ∀ c, c ∈ ([2, 50, 51, 52, 54, 56, 105, 106, 107, 108] : List Nat) → c ∉ ([6, 19, 100, 113, 114] : List Nat) by decide) c hc))
  · exact RF_cg hF (fun c hc => F c ((show ∀ c, c ∈ ([1, 2, 41, 42, 43, 44, 53, 102, 103, 109, 110] : List Nat) → c ∉ ([6, 19, 100, 113, 114] : List Nat) by decide) c hc))
  · exact RG_cg hG (fun c hc => F c ((show ∀ c, c ∈ ([1, 2, 3, 4, 60, 61, 62, 63, 64, 65, 67, 68, 127, 128, 129, 130, 131, 132, 133, 134] : List Nat) → c ∉ ([6, 19, 100, 113, 114] : List Nat) by decide) c hc))
  · exact RT_cg hT (fun c hc => F c ((show ∀ c, c ∈ ([1, 3, 4, 45, 61, 62, 63] : List Nat) → c ∉ ([6, 19, 100, 113, 114] : List Nat) by decide) c hc))
  · exact RW_cg hW (fun c hc => F c ((show ∀ c, c ∈ ([3, 56, 66, 135] : List Nat) → c ∉ ([6, 19, 100, 113, 114] : List Nat) by decide) c hc))
  · exact RR_cg hR (fun c hc => F c ((show ∀ c, c ∈ ([11, 12, 13, 80, 81, 82, 122, 123, 125] : List Nat) → c ∉ ([6, 19, 100, 113, 114] : List Nat) by decide) c hc))
  · exact ⟨by rw [k86]; exact hS.1, key.2.1⟩
  · exact key.2.2

theorem st_end {g u1 u2 : gh} {r1 r2 p1 : Int32} (h : RLA g) (f1 : ∀ c, c ∉ ([6] : List Nat) → u1 c = g c) (f2 : ∀ c, c ∉ ([100, 114] : List Nat) → u2 c = u1 c)
    (c0 : 0 ≤ p1.toInt ∧ p1.toInt ≤ g 6 0 → r1.toInt = p1.toInt ∧ u1 6 0 = p1.toInt)
    (c1 : ¬ (0 ≤ p1.toInt ∧ p1.toInt ≤ g 6 0) → r1.toInt = -1 ∧ u1 6 0 = g 6 0)
    (m0 : 0 ≤ p1.toInt ∧ p1.toInt ≤ u1 114 0 → r2.toInt = p1.toInt ∧ u2 114 0 = p1.toInt)
    (m1 : ¬ (0 ≤ p1.toInt ∧ p1.toInt ≤ u1 114 0) → r2.toInt = -1 ∧ u2 114 0 = u1 114 0) : RLA u2 ∧ r1.toInt = r2.toInt := by
  obtain ⟨hC, hO, hF, hG, hT, hW, hR, hS⟩ := h
  have F : ∀ c, c ∉ ([6, 100, 114] : List Nat) → u2 c = g c := fun c hc => by rw [f2 c (fun q => hc ((show ∀ c, c ∈ ([100, 114] : List Nat) → c ∈ ([6, 100, 114] : List Nat) by decide) c q)), f1 c (fun q => hc ((show ∀ c, c ∈ ([6] : List Nat) → c ∈ ([6, 100, 114] : List Nat) by decide) c q))]
  have ⟨C1, C2, C3, C4, C5, C6, C14, C18, C33, C34, C35, C1a, C1b, C2a, C2b, C3a, C3b, C5a, C5b, C4a, C6a, C6b, C22a, C22b⟩ := hC
  have ⟨e50, e51, e52, e54, O5, O6⟩ := hO
  have ⟨e41, e42, e43, e44, F5, F6, F7, F8⟩ := hF
  have ⟨e60, e61, e62, e63, e64, e65, e67, e68, G9⟩ := hG
  rw [f1 114 (by decide), C6] at m0
  rw [f1 114 (by decide), C6] at m1
  have k6 : u2 6 = u1 6 := f2 6 (by decide)
  have k1 : u2 1 = g 1 := F 1 (by decide)
  have k2 : u2 2 = g 2 := F 2 (by decide)
  have k3 : u2 3 = g 3 := F 3 (by decide)
  have k4 : u2 4 = g 4 := F 4 (by decide)
  have k5 : u2 5 = g 5 := F 5 (by decide)
  have k11 : u2 11 = g 11 := F 11 (by decide)
  have k12 : u2 12 = g 12 := F 12 (by decide)
  have k13 : u2 13 = g 13 := F 13 (by decide)
  have k14 : u2 14 = g 14 := F 14 (by decide)
  have k18 : u2 18 = g 18 := F 18 (by decide)
  have k19 : u2 19 = g 19 := F 19 (by decide)
  have k33 : u2 33 = g 33 := F 33 (by decide)
  have k34 : u2 34 = g 34 := F 34 (by decide)
  have k35 : u2 35 = g 35 := F 35 (by decide)
  have k41 : u2 41 = g 41 := F 41 (by decide)
  have k42 : u2 42 = g 42 := F 42 (by decide)
  have k43 : u2 43 = g 43 := F 43 (by decide)
  have k44 : u2 44 = g 44 := F 44 (by decide)
  have k45 : u2 45 = g 45 := F 45 (by decide)
  have k50 : u2 50 = g 50 := F 50 (by decide)
  have k51 : u2 51 = g 51 := F 51 (by decide)
  have k52 : u2 52 = g 52 := F 52 (by decide)
  have k53 : u2 53 = g 53 := F 53 (by decide)
  have k54 : u2 54 = g 54 := F 54 (by decide)
  have k56 : u2 56 = g 56 := F 56 (by decide)
  have k60 : u2 60 = g 60 := F 60 (by decide)
  have k61 : u2 61 = g 61 := F 61 (by decide)
  have k62 : u2 62 = g 62 := F 62 (by decide)
  have k63 : u2 63 = g 63 := F 63 (by decide)
  have k64 : u2 64 = g 64 := F 64 (by decide)
  have k65 : u2 65 = g 65 := F 65 (by decide)
  have k66 : u2 66 = g 66 := F 66 (by decide)
  have k67 : u2 67 = g 67 := F 67 (by decide)
  have k68 : u2 68 = g 68 := F 68 (by decide)
  have k80 : u2 80 = g 80 := F 80 (by decide)
  have k81 : u2 81 = g 81 := F 81 (by decide)
  have k82 : u2 82 = g 82 := F 82 (by decide)
  have k86 : u2 86 = g 86 := F 86 (by decide)
  have k101 : u2 101 = g 101 := F 101 (by decide)
  have k102 : u2 102 = g 102 := F 102 (by decide)
  have k103 : u2 103 = g 103 := F 103 (by decide)
  have k104 : u2 104 = g 104 := F 104 (by decide)
  have k105 : u2 105 = g 105 := F 105 (by decide)
  have k106 : u2 106 = g 106 := F 106 (by decide)
  have k107 : u2 107 = g 107 := F 107 (by decide)
  have k108 : u2 108 = g 108 := F 108 (by decide)
  have k109 : u2 109 = g 109 := F 109 (by decide)
  have k110 : u2 110 = g 110 := F 110 (by decide)
  have k111 : u2 111 = g 111 := F 111 (by decide)
  have k112 : u2 112 = g 112 := F 112 (by decide)
  have k113 : u2 113 = g 113 := F 113 (by decide)
  have k118 : u2 118 = g 118 := F 118 (by decide)
  have k121 : u2 121 = g 121 := F 121 (by decide)
  have k122 : u2 122 = g 122 := F 122 (by decide)
  have k123 : u2 123 = g 123 := F 123 (by decide)
  have k125 : u2 125 = g 125 := F 125 (by decide)
  have k126 : u2 126 = g 126 := F 126 (by decide)
  have k127 : u2 127 = g 127 := F 127 (by decide)
  have k128 : u2 128 = g 128 := F 128 (by decide)
  have k129 : u2 129 = g 129 := F 129 (by decide)
  have k130 : u2 130 = g 130 := F 130 (by decide)
  have k131 : u2 131 = g 131 := F 131 (by decide)
  have k132 : u2 132 = g 132 := F 132 (by decide)
  have k133 : u2 133 = g 133 := F 133 (by decide)
  have k134 : u2 134 = g 134 := F 134 (by decide)
  have k135 : u2 135 = g 135 := F 135 (by decide)
  have key : (u2 114 0 = u2 6 0 ∧ 0 ≤ u2 6 0 ∧ u2 6 0 ≤ 300) ∧ r1.toInt = r2.toInt := by
    by_cases A : 0 ≤ p1.toInt ∧ p1.toInt ≤ g 6 0
    · have a := c0 A; have b := m0 A
      exact ⟨⟨by rw [k6]; omega, by rw [k6]; omega, by rw [k6]; omega⟩, by omega⟩
    · have a := c1 A; have b := m1 A
      exact ⟨⟨by rw [k6]; omega, by rw [k6]; omega, by rw [k6]; omega⟩, by omega⟩
  refine ⟨⟨?_, ?_, ?_, ?_, ?_, ?_, ?_, ?_⟩, ?_⟩
  · unfold RC; rw [k101, k1, k104, k2, k126, k3, k111, k4, k112, k5, k121, k14, k118, k18, k33, k34, k35, k122]; exact ⟨C1, C2, C3, C4, C5, key.1.1, C14, C18, C33, C34, C35, C1a, C1b, C2a, C2b, C3a, C3b, C5a, C5b, C4a, key.1.2.1, key.1.2.2, C22a, C22b⟩
  · exact RO_cg hO (fun c hc => F c ((show ∀ c, c ∈ ([2, 50, 51, 52, 54, 56, 105, 106, 107, 108] : List Nat) → c ∉ ([6, 100, 114] : List Nat) by decide) c hc))
  · exact RF_cg hF (fun c hc => F c ((show ∀ c, c ∈ ([1, 2, 41, 42, 43, 44, 53, 102, 103, 109, 110] : List Nat) → c ∉ ([6, 100, 114] : List Nat) by decide) c hc))
  · exact RG_cg hG (fun c hc => F c ((show ∀ c, c ∈ ([1, 2, 3, 4, 60, 61, 62, 63, 64, 65, 67, 68, 127, 128, 129, 130, 131, 132, 133, 134] : List Nat) → c ∉ ([6, 100, 114] : List Nat) by decide) c hc))
  · exact RT_cg hT (fun c hc => F c ((show ∀ c, c ∈ ([1, 3, 4, 45, 61, 62, 63] : List Nat) → c ∉ ([6, 100, 114] : List Nat) by decide) c hc))
  · exact RW_cg hW (fun c hc => F c ((show ∀ c, c ∈ ([3, 56, 66, 135] : List Nat) → c ∉ ([6, 100, 114] : List Nat) by decide) c hc))
  · exact RR_cg hR (fun c hc => F c ((show ∀ c, c ∈ ([11, 12, 13, 80, 81, 82, 122, 123, 125] : List Nat) → c ∉ ([6, 100, 114] : List Nat) by decide) c hc))
  · exact RS_cg hS (fun c hc => F c ((show ∀ c, c ∈ ([19, 86, 113] : List Nat) → c ∉ ([6, 100, 114] : List Nat) by decide) c hc))
  · exact key.2

theorem st_place {g u1 u2 : gh} {r1 r2  : Int32} (h : RLA g) (f1 : ∀ c, c ∉ ([] : List Nat) → u1 c = g c) (f2 : ∀ c, c ∉ ([100] : List Nat) → u2 c = u1 c)
    (c0 : r1.toInt = g 14 0)
    (m0 : r2.toInt = u1 121 0) : RLA u2 ∧ r1.toInt = r2.toInt := by
  obtain ⟨hC, hO, hF, hG, hT, hW, hR, hS⟩ := h
  have F : ∀ c, c ∉ ([100] : List Nat) → u2 c = g c := fun c hc => by rw [f2 c (fun q => hc ((show ∀ c, c ∈ ([100] : List Nat) → c ∈ ([100] : List Nat) by decide) c q)), f1 c (fun q => hc ((show ∀ c, c ∈ ([] : List Nat) → c ∈ ([100] : List Nat) by decide) c q))]
  have ⟨C1, C2, C3, C4, C5, C6, C14, C18, C33, C34, C35, C1a, C1b, C2a, C2b, C3a, C3b, C5a, C5b, C4a, C6a, C6b, C22a, C22b⟩ := hC
  have ⟨e50, e51, e52, e54, O5, O6⟩ := hO
  have ⟨e41, e42, e43, e44, F5, F6, F7, F8⟩ := hF
  have ⟨e60, e61, e62, e63, e64, e65, e67, e68, G9⟩ := hG
  rw [f1 121 (by decide), C14] at m0
  have k1 : u2 1 = g 1 := F 1 (by decide)
  have k2 : u2 2 = g 2 := F 2 (by decide)
  have k3 : u2 3 = g 3 := F 3 (by decide)
  have k4 : u2 4 = g 4 := F 4 (by decide)
  have k5 : u2 5 = g 5 := F 5 (by decide)
  have k6 : u2 6 = g 6 := F 6 (by decide)
  have k11 : u2 11 = g 11 := F 11 (by decide)
  have k12 : u2 12 = g 12 := F 12 (by decide)
  have k13 : u2 13 = g 13 := F 13 (by decide)
  have k14 : u2 14 = g 14 := F 14 (by decide)
  have k18 : u2 18 = g 18 := F 18 (by decide)
  have k19 : u2 19 = g 19 := F 19 (by decide)
  have k33 : u2 33 = g 33 := F 33 (by decide)
  have k34 : u2 34 = g 34 := F 34 (by decide)
  have k35 : u2 35 = g 35 := F 35 (by decide)
  have k41 : u2 41 = g 41 := F 41 (by decide)
  have k42 : u2 42 = g 42 := F 42 (by decide)
  have k43 : u2 43 = g 43 := F 43 (by decide)
  have k44 : u2 44 = g 44 := F 44 (by decide)
  have k45 : u2 45 = g 45 := F 45 (by decide)
  have k50 : u2 50 = g 50 := F 50 (by decide)
  have k51 : u2 51 = g 51 := F 51 (by decide)
  have k52 : u2 52 = g 52 := F 52 (by decide)
  have k53 : u2 53 = g 53 := F 53 (by decide)
  have k54 : u2 54 = g 54 := F 54 (by decide)
  have k56 : u2 56 = g 56 := F 56 (by decide)
  have k60 : u2 60 = g 60 := F 60 (by decide)
  have k61 : u2 61 = g 61 := F 61 (by decide)
  have k62 : u2 62 = g 62 := F 62 (by decide)
  have k63 : u2 63 = g 63 := F 63 (by decide)
  have k64 : u2 64 = g 64 := F 64 (by decide)
  have k65 : u2 65 = g 65 := F 65 (by decide)
  have k66 : u2 66 = g 66 := F 66 (by decide)
  have k67 : u2 67 = g 67 := F 67 (by decide)
  have k68 : u2 68 = g 68 := F 68 (by decide)
  have k80 : u2 80 = g 80 := F 80 (by decide)
  have k81 : u2 81 = g 81 := F 81 (by decide)
  have k82 : u2 82 = g 82 := F 82 (by decide)
  have k86 : u2 86 = g 86 := F 86 (by decide)
  have k101 : u2 101 = g 101 := F 101 (by decide)
  have k102 : u2 102 = g 102 := F 102 (by decide)
  have k103 : u2 103 = g 103 := F 103 (by decide)
  have k104 : u2 104 = g 104 := F 104 (by decide)
  have k105 : u2 105 = g 105 := F 105 (by decide)
  have k106 : u2 106 = g 106 := F 106 (by decide)
  have k107 : u2 107 = g 107 := F 107 (by decide)
  have k108 : u2 108 = g 108 := F 108 (by decide)
  have k109 : u2 109 = g 109 := F 109 (by decide)
  have k110 : u2 110 = g 110 := F 110 (by decide)
  have k111 : u2 111 = g 111 := F 111 (by decide)
  have k112 : u2 112 = g 112 := F 112 (by decide)
  have k113 : u2 113 = g 113 := F 113 (by decide)
  have k114 : u2 114 = g 114 := F 114 (by decide)
  have k118 : u2 118 = g 118 := F 118 (by decide)
  have k121 : u2 121 = g 121 := F 121 (by decide)
  have k122 : u2 122 = g 122 := F 122 (by decide)
  have k123 : u2 123 = g 123 := F 123 (by decide)
  have k125 : u2 125 = g 125 := F 125 (by decide)
  have k126 : u2 126 = g 126 := F 126 (by decide)
  have k127 : u2 127 = g 127 := F 127 (by decide)
  have k128 : u2 128 = g 128 := F 128 (by decide)
  have k129 : u2 129 = g 129 := F 129 (by decide)
  have k130 : u2 130 = g 130 := F 130 (by decide)
  have k131 : u2 131 = g 131 := F 131 (by decide)
  have k132 : u2 132 = g 132 := F 132 (by decide)
  have k133 : u2 133 = g 133 := F 133 (by decide)
  have k134 : u2 134 = g 134 := F 134 (by decide)
  have k135 : u2 135 = g 135 := F 135 (by decide)
  refine ⟨⟨?_, ?_, ?_, ?_, ?_, ?_, ?_, ?_⟩, ?_⟩
  · exact RC_cg hC (fun c hc => F c ((show ∀ c, c ∈ ([1, 2, 3, 4, 5, 6, 14, 18, 33, 34, 35, 101, 104, 111, 112, 114, 118, 121, 122, 126] : List Nat) → c ∉ ([100] : List Nat) by decide) c hc))
  · exact RO_cg hO (fun c hc => F c ((show ∀ c, c ∈ ([2, 50, 51, 52, 54, 56, 105, 106, 107, 108] : List Nat) → c ∉ ([100] : List Nat) by decide) c hc))
  · exact RF_cg hF (fun c hc => F c ((show ∀ c, c ∈ ([1, 2, 41, 42, 43, 44, 53, 102, 103, 109, 110] : List Nat) → c ∉ ([100] : List Nat) by decide) c hc))
  · exact RG_cg hG (fun c hc => F c ((show ∀ c, c ∈ ([1, 2, 3, 4, 60, 61, 62, 63, 64, 65, 67, 68, 127, 128, 129, 130, 131, 132, 133, 134] : List Nat) → c ∉ ([100] : List Nat) by decide) c hc))
  · exact RT_cg hT (fun c hc => F c ((show ∀ c, c ∈ ([1, 3, 4, 45, 61, 62, 63] : List Nat) → c ∉ ([100] : List Nat) by decide) c hc))
  · exact RW_cg hW (fun c hc => F c ((show ∀ c, c ∈ ([3, 56, 66, 135] : List Nat) → c ∉ ([100] : List Nat) by decide) c hc))
  · exact RR_cg hR (fun c hc => F c ((show ∀ c, c ∈ ([11, 12, 13, 80, 81, 82, 122, 123, 125] : List Nat) → c ∉ ([100] : List Nat) by decide) c hc))
  · exact RS_cg hS (fun c hc => F c ((show ∀ c, c ∈ ([19, 86, 113] : List Nat) → c ∉ ([100] : List Nat) by decide) c hc))
  · rw [c0, m0]

theorem st_worth {g u1 u2 : gh} {r1 r2 p1 p2 : Int32} (h : RLA g) (f1 : ∀ c, c ∉ ([] : List Nat) → u1 c = g c) (f2 : ∀ c, c ∉ ([100] : List Nat) → u2 c = u1 c)
    (c0 : (ok_pl (g 1 0) p1.toInt p2.toInt → r1.toInt = wo_f (g 80) (g 81) (g 82) (64 * (g 13 0).toNat) (g 42 p1.toInt.toNat) p2.toInt (p2.toInt - g 5 0)) ∧ (¬ (ok_pl (g 1 0) p1.toInt p2.toInt) → r1.toInt = -1))
    (m0 : (ok_pl (u1 101 0) p1.toInt p2.toInt → r2.toInt = (wm_w (u1 123) p2.toInt ((u1 103) p1.toInt.toNat) (p2.toInt - (u1 112) 0) ((u1 122) 0).toNat)) ∧ (¬ (ok_pl (u1 101 0) p1.toInt p2.toInt) → r2.toInt = -1)) : RLA u2 ∧ r1.toInt = r2.toInt := by
  obtain ⟨hC, hO, hF, hG, hT, hW, hR, hS⟩ := h
  have F : ∀ c, c ∉ ([100] : List Nat) → u2 c = g c := fun c hc => by rw [f2 c (fun q => hc ((show ∀ c, c ∈ ([100] : List Nat) → c ∈ ([100] : List Nat) by decide) c q)), f1 c (fun q => hc ((show ∀ c, c ∈ ([] : List Nat) → c ∈ ([100] : List Nat) by decide) c q))]
  have ⟨C1, C2, C3, C4, C5, C6, C14, C18, C33, C34, C35, C1a, C1b, C2a, C2b, C3a, C3b, C5a, C5b, C4a, C6a, C6b, C22a, C22b⟩ := hC
  have ⟨e50, e51, e52, e54, O5, O6⟩ := hO
  have ⟨e41, e42, e43, e44, F5, F6, F7, F8⟩ := hF
  have ⟨e60, e61, e62, e63, e64, e65, e67, e68, G9⟩ := hG
  rw [f1 101 (by decide), f1 123 (by decide), f1 103 (by decide), f1 112 (by decide), f1 122 (by decide), ← e42, C1, C5] at m0
  have k1 : u2 1 = g 1 := F 1 (by decide)
  have k2 : u2 2 = g 2 := F 2 (by decide)
  have k3 : u2 3 = g 3 := F 3 (by decide)
  have k4 : u2 4 = g 4 := F 4 (by decide)
  have k5 : u2 5 = g 5 := F 5 (by decide)
  have k6 : u2 6 = g 6 := F 6 (by decide)
  have k11 : u2 11 = g 11 := F 11 (by decide)
  have k12 : u2 12 = g 12 := F 12 (by decide)
  have k13 : u2 13 = g 13 := F 13 (by decide)
  have k14 : u2 14 = g 14 := F 14 (by decide)
  have k18 : u2 18 = g 18 := F 18 (by decide)
  have k19 : u2 19 = g 19 := F 19 (by decide)
  have k33 : u2 33 = g 33 := F 33 (by decide)
  have k34 : u2 34 = g 34 := F 34 (by decide)
  have k35 : u2 35 = g 35 := F 35 (by decide)
  have k41 : u2 41 = g 41 := F 41 (by decide)
  have k42 : u2 42 = g 42 := F 42 (by decide)
  have k43 : u2 43 = g 43 := F 43 (by decide)
  have k44 : u2 44 = g 44 := F 44 (by decide)
  have k45 : u2 45 = g 45 := F 45 (by decide)
  have k50 : u2 50 = g 50 := F 50 (by decide)
  have k51 : u2 51 = g 51 := F 51 (by decide)
  have k52 : u2 52 = g 52 := F 52 (by decide)
  have k53 : u2 53 = g 53 := F 53 (by decide)
  have k54 : u2 54 = g 54 := F 54 (by decide)
  have k56 : u2 56 = g 56 := F 56 (by decide)
  have k60 : u2 60 = g 60 := F 60 (by decide)
  have k61 : u2 61 = g 61 := F 61 (by decide)
  have k62 : u2 62 = g 62 := F 62 (by decide)
  have k63 : u2 63 = g 63 := F 63 (by decide)
  have k64 : u2 64 = g 64 := F 64 (by decide)
  have k65 : u2 65 = g 65 := F 65 (by decide)
  have k66 : u2 66 = g 66 := F 66 (by decide)
  have k67 : u2 67 = g 67 := F 67 (by decide)
  have k68 : u2 68 = g 68 := F 68 (by decide)
  have k80 : u2 80 = g 80 := F 80 (by decide)
  have k81 : u2 81 = g 81 := F 81 (by decide)
  have k82 : u2 82 = g 82 := F 82 (by decide)
  have k86 : u2 86 = g 86 := F 86 (by decide)
  have k101 : u2 101 = g 101 := F 101 (by decide)
  have k102 : u2 102 = g 102 := F 102 (by decide)
  have k103 : u2 103 = g 103 := F 103 (by decide)
  have k104 : u2 104 = g 104 := F 104 (by decide)
  have k105 : u2 105 = g 105 := F 105 (by decide)
  have k106 : u2 106 = g 106 := F 106 (by decide)
  have k107 : u2 107 = g 107 := F 107 (by decide)
  have k108 : u2 108 = g 108 := F 108 (by decide)
  have k109 : u2 109 = g 109 := F 109 (by decide)
  have k110 : u2 110 = g 110 := F 110 (by decide)
  have k111 : u2 111 = g 111 := F 111 (by decide)
  have k112 : u2 112 = g 112 := F 112 (by decide)
  have k113 : u2 113 = g 113 := F 113 (by decide)
  have k114 : u2 114 = g 114 := F 114 (by decide)
  have k118 : u2 118 = g 118 := F 118 (by decide)
  have k121 : u2 121 = g 121 := F 121 (by decide)
  have k122 : u2 122 = g 122 := F 122 (by decide)
  have k123 : u2 123 = g 123 := F 123 (by decide)
  have k125 : u2 125 = g 125 := F 125 (by decide)
  have k126 : u2 126 = g 126 := F 126 (by decide)
  have k127 : u2 127 = g 127 := F 127 (by decide)
  have k128 : u2 128 = g 128 := F 128 (by decide)
  have k129 : u2 129 = g 129 := F 129 (by decide)
  have k130 : u2 130 = g 130 := F 130 (by decide)
  have k131 : u2 131 = g 131 := F 131 (by decide)
  have k132 : u2 132 = g 132 := F 132 (by decide)
  have k133 : u2 133 = g 133 := F 133 (by decide)
  have k134 : u2 134 = g 134 := F 134 (by decide)
  have k135 : u2 135 = g 135 := F 135 (by decide)
  have key : r1.toInt = r2.toInt := by
    by_cases A : ok_pl (g 1 0) p1.toInt p2.toInt
    · rw [c0.1 A, m0.1 A]
      unfold ok_pl at A
      exact worth_eq hR.2.2.1 (fun j => (hR.2.2.2.1.1 j).1) (fun j => (hR.2.2.2.1.1 j).2) hR.2.2.2.1.2 ⟨by omega, by omega⟩ (F6 p1.toInt.toNat (by omega))
    · rw [c0.2 A, m0.2 A]
  refine ⟨⟨?_, ?_, ?_, ?_, ?_, ?_, ?_, ?_⟩, ?_⟩
  · exact RC_cg hC (fun c hc => F c ((show ∀ c, c ∈ ([1, 2, 3, 4, 5, 6, 14, 18, 33, 34, 35, 101, 104, 111, 112, 114, 118, 121, 122, 126] : List Nat) → c ∉ ([100] : List Nat) by decide) c hc))
  · exact RO_cg hO (fun c hc => F c ((show ∀ c, c ∈ ([2, 50, 51, 52, 54, 56, 105, 106, 107, 108] : List Nat) → c ∉ ([100] : List Nat) by decide) c hc))
  · exact RF_cg hF (fun c hc => F c ((show ∀ c, c ∈ ([1, 2, 41, 42, 43, 44, 53, 102, 103, 109, 110] : List Nat) → c ∉ ([100] : List Nat) by decide) c hc))
  · exact RG_cg hG (fun c hc => F c ((show ∀ c, c ∈ ([1, 2, 3, 4, 60, 61, 62, 63, 64, 65, 67, 68, 127, 128, 129, 130, 131, 132, 133, 134] : List Nat) → c ∉ ([100] : List Nat) by decide) c hc))
  · exact RT_cg hT (fun c hc => F c ((show ∀ c, c ∈ ([1, 3, 4, 45, 61, 62, 63] : List Nat) → c ∉ ([100] : List Nat) by decide) c hc))
  · exact RW_cg hW (fun c hc => F c ((show ∀ c, c ∈ ([3, 56, 66, 135] : List Nat) → c ∉ ([100] : List Nat) by decide) c hc))
  · exact RR_cg hR (fun c hc => F c ((show ∀ c, c ∈ ([11, 12, 13, 80, 81, 82, 122, 123, 125] : List Nat) → c ∉ ([100] : List Nat) by decide) c hc))
  · exact RS_cg hS (fun c hc => F c ((show ∀ c, c ∈ ([19, 86, 113] : List Nat) → c ∉ ([100] : List Nat) by decide) c hc))
  · exact key

theorem st_count {g u1 u2 : gh} {r1 r2 p1 : Int32} (h : RLA g) (f1 : ∀ c, c ∉ ([] : List Nat) → u1 c = g c) (f2 : ∀ c, c ∉ ([100] : List Nat) → u2 c = u1 c)
    (c0 : r1.toInt = ct_c (g 1 0) (g 2 0) (g 4 0) (g 5 0) (g 3 0) (g 6 0) (g 11 (g 13 0).toNat) (g 65) (g 51) p1.toInt)
    (m0 : r2.toInt = ct_c (u1 101 0) (u1 104 0) (u1 111 0) (u1 112 0) (u1 126 0) (u1 114 0) (hb_f (u1 123) (u1 122 0).toNat) (u1 132) (u1 106) p1.toInt) : RLA u2 ∧ r1.toInt = r2.toInt := by
  obtain ⟨hC, hO, hF, hG, hT, hW, hR, hS⟩ := h
  have F : ∀ c, c ∉ ([100] : List Nat) → u2 c = g c := fun c hc => by rw [f2 c (fun q => hc ((show ∀ c, c ∈ ([100] : List Nat) → c ∈ ([100] : List Nat) by decide) c q)), f1 c (fun q => hc ((show ∀ c, c ∈ ([] : List Nat) → c ∈ ([100] : List Nat) by decide) c q))]
  have ⟨C1, C2, C3, C4, C5, C6, C14, C18, C33, C34, C35, C1a, C1b, C2a, C2b, C3a, C3b, C5a, C5b, C4a, C6a, C6b, C22a, C22b⟩ := hC
  have ⟨e50, e51, e52, e54, O5, O6⟩ := hO
  have ⟨e41, e42, e43, e44, F5, F6, F7, F8⟩ := hF
  have ⟨e60, e61, e62, e63, e64, e65, e67, e68, G9⟩ := hG
  rw [f1 101 (by decide), f1 104 (by decide), f1 111 (by decide), f1 112 (by decide), f1 126 (by decide), f1 114 (by decide), f1 123 (by decide), f1 122 (by decide), f1 132 (by decide), f1 106 (by decide), ← e65, ← e51, C1, C2, C4, C5, C3, C6] at m0
  have k1 : u2 1 = g 1 := F 1 (by decide)
  have k2 : u2 2 = g 2 := F 2 (by decide)
  have k3 : u2 3 = g 3 := F 3 (by decide)
  have k4 : u2 4 = g 4 := F 4 (by decide)
  have k5 : u2 5 = g 5 := F 5 (by decide)
  have k6 : u2 6 = g 6 := F 6 (by decide)
  have k11 : u2 11 = g 11 := F 11 (by decide)
  have k12 : u2 12 = g 12 := F 12 (by decide)
  have k13 : u2 13 = g 13 := F 13 (by decide)
  have k14 : u2 14 = g 14 := F 14 (by decide)
  have k18 : u2 18 = g 18 := F 18 (by decide)
  have k19 : u2 19 = g 19 := F 19 (by decide)
  have k33 : u2 33 = g 33 := F 33 (by decide)
  have k34 : u2 34 = g 34 := F 34 (by decide)
  have k35 : u2 35 = g 35 := F 35 (by decide)
  have k41 : u2 41 = g 41 := F 41 (by decide)
  have k42 : u2 42 = g 42 := F 42 (by decide)
  have k43 : u2 43 = g 43 := F 43 (by decide)
  have k44 : u2 44 = g 44 := F 44 (by decide)
  have k45 : u2 45 = g 45 := F 45 (by decide)
  have k50 : u2 50 = g 50 := F 50 (by decide)
  have k51 : u2 51 = g 51 := F 51 (by decide)
  have k52 : u2 52 = g 52 := F 52 (by decide)
  have k53 : u2 53 = g 53 := F 53 (by decide)
  have k54 : u2 54 = g 54 := F 54 (by decide)
  have k56 : u2 56 = g 56 := F 56 (by decide)
  have k60 : u2 60 = g 60 := F 60 (by decide)
  have k61 : u2 61 = g 61 := F 61 (by decide)
  have k62 : u2 62 = g 62 := F 62 (by decide)
  have k63 : u2 63 = g 63 := F 63 (by decide)
  have k64 : u2 64 = g 64 := F 64 (by decide)
  have k65 : u2 65 = g 65 := F 65 (by decide)
  have k66 : u2 66 = g 66 := F 66 (by decide)
  have k67 : u2 67 = g 67 := F 67 (by decide)
  have k68 : u2 68 = g 68 := F 68 (by decide)
  have k80 : u2 80 = g 80 := F 80 (by decide)
  have k81 : u2 81 = g 81 := F 81 (by decide)
  have k82 : u2 82 = g 82 := F 82 (by decide)
  have k86 : u2 86 = g 86 := F 86 (by decide)
  have k101 : u2 101 = g 101 := F 101 (by decide)
  have k102 : u2 102 = g 102 := F 102 (by decide)
  have k103 : u2 103 = g 103 := F 103 (by decide)
  have k104 : u2 104 = g 104 := F 104 (by decide)
  have k105 : u2 105 = g 105 := F 105 (by decide)
  have k106 : u2 106 = g 106 := F 106 (by decide)
  have k107 : u2 107 = g 107 := F 107 (by decide)
  have k108 : u2 108 = g 108 := F 108 (by decide)
  have k109 : u2 109 = g 109 := F 109 (by decide)
  have k110 : u2 110 = g 110 := F 110 (by decide)
  have k111 : u2 111 = g 111 := F 111 (by decide)
  have k112 : u2 112 = g 112 := F 112 (by decide)
  have k113 : u2 113 = g 113 := F 113 (by decide)
  have k114 : u2 114 = g 114 := F 114 (by decide)
  have k118 : u2 118 = g 118 := F 118 (by decide)
  have k121 : u2 121 = g 121 := F 121 (by decide)
  have k122 : u2 122 = g 122 := F 122 (by decide)
  have k123 : u2 123 = g 123 := F 123 (by decide)
  have k125 : u2 125 = g 125 := F 125 (by decide)
  have k126 : u2 126 = g 126 := F 126 (by decide)
  have k127 : u2 127 = g 127 := F 127 (by decide)
  have k128 : u2 128 = g 128 := F 128 (by decide)
  have k129 : u2 129 = g 129 := F 129 (by decide)
  have k130 : u2 130 = g 130 := F 130 (by decide)
  have k131 : u2 131 = g 131 := F 131 (by decide)
  have k132 : u2 132 = g 132 := F 132 (by decide)
  have k133 : u2 133 = g 133 := F 133 (by decide)
  have k134 : u2 134 = g 134 := F 134 (by decide)
  have k135 : u2 135 = g 135 := F 135 (by decide)
  rw [← hR.2.2.1.2.2.2] at m0
  refine ⟨⟨?_, ?_, ?_, ?_, ?_, ?_, ?_, ?_⟩, ?_⟩
  · exact RC_cg hC (fun c hc => F c ((show ∀ c, c ∈ ([1, 2, 3, 4, 5, 6, 14, 18, 33, 34, 35, 101, 104, 111, 112, 114, 118, 121, 122, 126] : List Nat) → c ∉ ([100] : List Nat) by decide) c hc))
  · exact RO_cg hO (fun c hc => F c ((show ∀ c, c ∈ ([2, 50, 51, 52, 54, 56, 105, 106, 107, 108] : List Nat) → c ∉ ([100] : List Nat) by decide) c hc))
  · exact RF_cg hF (fun c hc => F c ((show ∀ c, c ∈ ([1, 2, 41, 42, 43, 44, 53, 102, 103, 109, 110] : List Nat) → c ∉ ([100] : List Nat) by decide) c hc))
  · exact RG_cg hG (fun c hc => F c ((show ∀ c, c ∈ ([1, 2, 3, 4, 60, 61, 62, 63, 64, 65, 67, 68, 127, 128, 129, 130, 131, 132, 133, 134] : List Nat) → c ∉ ([100] : List Nat) by decide) c hc))
  · exact RT_cg hT (fun c hc => F c ((show ∀ c, c ∈ ([1, 3, 4, 45, 61, 62, 63] : List Nat) → c ∉ ([100] : List Nat) by decide) c hc))
  · exact RW_cg hW (fun c hc => F c ((show ∀ c, c ∈ ([3, 56, 66, 135] : List Nat) → c ∉ ([100] : List Nat) by decide) c hc))
  · exact RR_cg hR (fun c hc => F c ((show ∀ c, c ∈ ([11, 12, 13, 80, 81, 82, 122, 123, 125] : List Nat) → c ∉ ([100] : List Nat) by decide) c hc))
  · exact RS_cg hS (fun c hc => F c ((show ∀ c, c ∈ ([19, 86, 113] : List Nat) → c ∉ ([100] : List Nat) by decide) c hc))
  · rw [c0, m0]

theorem pt_z {fc z z' f w : Int} {ow st bq : Nat → Int} (h : 0 ≤ f → f < fc → 0 ≤ w → w ≤ 52 → z = z') : pt_c fc ow z st bq f w = pt_c fc ow z' st bq f w := by
  by_cases c : 0 ≤ f ∧ f < fc ∧ 0 ≤ w ∧ w ≤ 52
  · rw [h c.1 c.2.1 c.2.2.1 c.2.2.2]
  · unfold pt_c; rw [if_pos c, if_pos c]
theorem oo_z {oc a a' b b' o v : Int} {pt lu li de : Nat → Int} (h : 0 ≤ o → o < oc → a = a' ∧ b = b') : oo_c oc pt lu li a de b o v = oo_c oc pt lu li a' de b' o v := by
  by_cases c : 0 ≤ o ∧ o < oc
  · rw [(h c.1 c.2).1, (h c.1 c.2).2]
  · unfold oo_c; rw [if_pos c, if_pos c]

theorem st_party {g u1 u2 : gh} {r1 r2 p1 p2 : Int32} (h : RLA g) (f1 : ∀ c, c ∉ ([] : List Nat) → u1 c = g c) (f2 : ∀ c, c ∉ ([100] : List Nat) → u2 c = u1 c)
    (c0 : r1.toInt = pt_c (g 1 0) (g 43) (g 45 (53 * p1.toInt.toNat + p2.toInt.toNat)) (g 65) (g 68) p1.toInt p2.toInt)
    (m0 : r2.toInt = pt_c (u1 101 0) (u1 109) (ga_f (u1 128) (u1 129) (u1 130) p1.toInt p2.toInt (u1 111 0) (u1 126 0).toNat) (u1 132) (u1 134) p1.toInt p2.toInt) : RLA u2 ∧ r1.toInt = r2.toInt := by
  obtain ⟨hC, hO, hF, hG, hT, hW, hR, hS⟩ := h
  have F : ∀ c, c ∉ ([100] : List Nat) → u2 c = g c := fun c hc => by rw [f2 c (fun q => hc ((show ∀ c, c ∈ ([100] : List Nat) → c ∈ ([100] : List Nat) by decide) c q)), f1 c (fun q => hc ((show ∀ c, c ∈ ([] : List Nat) → c ∈ ([100] : List Nat) by decide) c q))]
  have ⟨C1, C2, C3, C4, C5, C6, C14, C18, C33, C34, C35, C1a, C1b, C2a, C2b, C3a, C3b, C5a, C5b, C4a, C6a, C6b, C22a, C22b⟩ := hC
  have ⟨e50, e51, e52, e54, O5, O6⟩ := hO
  have ⟨e41, e42, e43, e44, F5, F6, F7, F8⟩ := hF
  have ⟨e60, e61, e62, e63, e64, e65, e67, e68, G9⟩ := hG
  rw [f1 101 (by decide), f1 109 (by decide), f1 128 (by decide), f1 129 (by decide), f1 130 (by decide), f1 111 (by decide), f1 126 (by decide), f1 132 (by decide), f1 134 (by decide), ← e43, ← e61, ← e62, ← e63, ← e65, ← e68, C1, C4, C3] at m0
  have k1 : u2 1 = g 1 := F 1 (by decide)
  have k2 : u2 2 = g 2 := F 2 (by decide)
  have k3 : u2 3 = g 3 := F 3 (by decide)
  have k4 : u2 4 = g 4 := F 4 (by decide)
  have k5 : u2 5 = g 5 := F 5 (by decide)
  have k6 : u2 6 = g 6 := F 6 (by decide)
  have k11 : u2 11 = g 11 := F 11 (by decide)
  have k12 : u2 12 = g 12 := F 12 (by decide)
  have k13 : u2 13 = g 13 := F 13 (by decide)
  have k14 : u2 14 = g 14 := F 14 (by decide)
  have k18 : u2 18 = g 18 := F 18 (by decide)
  have k19 : u2 19 = g 19 := F 19 (by decide)
  have k33 : u2 33 = g 33 := F 33 (by decide)
  have k34 : u2 34 = g 34 := F 34 (by decide)
  have k35 : u2 35 = g 35 := F 35 (by decide)
  have k41 : u2 41 = g 41 := F 41 (by decide)
  have k42 : u2 42 = g 42 := F 42 (by decide)
  have k43 : u2 43 = g 43 := F 43 (by decide)
  have k44 : u2 44 = g 44 := F 44 (by decide)
  have k45 : u2 45 = g 45 := F 45 (by decide)
  have k50 : u2 50 = g 50 := F 50 (by decide)
  have k51 : u2 51 = g 51 := F 51 (by decide)
  have k52 : u2 52 = g 52 := F 52 (by decide)
  have k53 : u2 53 = g 53 := F 53 (by decide)
  have k54 : u2 54 = g 54 := F 54 (by decide)
  have k56 : u2 56 = g 56 := F 56 (by decide)
  have k60 : u2 60 = g 60 := F 60 (by decide)
  have k61 : u2 61 = g 61 := F 61 (by decide)
  have k62 : u2 62 = g 62 := F 62 (by decide)
  have k63 : u2 63 = g 63 := F 63 (by decide)
  have k64 : u2 64 = g 64 := F 64 (by decide)
  have k65 : u2 65 = g 65 := F 65 (by decide)
  have k66 : u2 66 = g 66 := F 66 (by decide)
  have k67 : u2 67 = g 67 := F 67 (by decide)
  have k68 : u2 68 = g 68 := F 68 (by decide)
  have k80 : u2 80 = g 80 := F 80 (by decide)
  have k81 : u2 81 = g 81 := F 81 (by decide)
  have k82 : u2 82 = g 82 := F 82 (by decide)
  have k86 : u2 86 = g 86 := F 86 (by decide)
  have k101 : u2 101 = g 101 := F 101 (by decide)
  have k102 : u2 102 = g 102 := F 102 (by decide)
  have k103 : u2 103 = g 103 := F 103 (by decide)
  have k104 : u2 104 = g 104 := F 104 (by decide)
  have k105 : u2 105 = g 105 := F 105 (by decide)
  have k106 : u2 106 = g 106 := F 106 (by decide)
  have k107 : u2 107 = g 107 := F 107 (by decide)
  have k108 : u2 108 = g 108 := F 108 (by decide)
  have k109 : u2 109 = g 109 := F 109 (by decide)
  have k110 : u2 110 = g 110 := F 110 (by decide)
  have k111 : u2 111 = g 111 := F 111 (by decide)
  have k112 : u2 112 = g 112 := F 112 (by decide)
  have k113 : u2 113 = g 113 := F 113 (by decide)
  have k114 : u2 114 = g 114 := F 114 (by decide)
  have k118 : u2 118 = g 118 := F 118 (by decide)
  have k121 : u2 121 = g 121 := F 121 (by decide)
  have k122 : u2 122 = g 122 := F 122 (by decide)
  have k123 : u2 123 = g 123 := F 123 (by decide)
  have k125 : u2 125 = g 125 := F 125 (by decide)
  have k126 : u2 126 = g 126 := F 126 (by decide)
  have k127 : u2 127 = g 127 := F 127 (by decide)
  have k128 : u2 128 = g 128 := F 128 (by decide)
  have k129 : u2 129 = g 129 := F 129 (by decide)
  have k130 : u2 130 = g 130 := F 130 (by decide)
  have k131 : u2 131 = g 131 := F 131 (by decide)
  have k132 : u2 132 = g 132 := F 132 (by decide)
  have k133 : u2 133 = g 133 := F 133 (by decide)
  have k134 : u2 134 = g 134 := F 134 (by decide)
  have k135 : u2 135 = g 135 := F 135 (by decide)
  have key : r1.toInt = r2.toInt := by
    rw [c0, m0]
    refine pt_z (fun x1 x2 x3 x4 => ?_)
    have q := hT p1.toInt.toNat p2.toInt.toNat (by omega) (by omega)
    rw [show ((p1.toInt.toNat : Nat) : Int) = p1.toInt by omega, show ((p2.toInt.toNat : Nat) : Int) = p2.toInt by omega] at q
    exact q
  refine ⟨⟨?_, ?_, ?_, ?_, ?_, ?_, ?_, ?_⟩, ?_⟩
  · exact RC_cg hC (fun c hc => F c ((show ∀ c, c ∈ ([1, 2, 3, 4, 5, 6, 14, 18, 33, 34, 35, 101, 104, 111, 112, 114, 118, 121, 122, 126] : List Nat) → c ∉ ([100] : List Nat) by decide) c hc))
  · exact RO_cg hO (fun c hc => F c ((show ∀ c, c ∈ ([2, 50, 51, 52, 54, 56, 105, 106, 107, 108] : List Nat) → c ∉ ([100] : List Nat) by decide) c hc))
  · exact RF_cg hF (fun c hc => F c ((show ∀ c, c ∈ ([1, 2, 41, 42, 43, 44, 53, 102, 103, 109, 110] : List Nat) → c ∉ ([100] : List Nat) by decide) c hc))
  · exact RG_cg hG (fun c hc => F c ((show ∀ c, c ∈ ([1, 2, 3, 4, 60, 61, 62, 63, 64, 65, 67, 68, 127, 128, 129, 130, 131, 132, 133, 134] : List Nat) → c ∉ ([100] : List Nat) by decide) c hc))
  · exact RT_cg hT (fun c hc => F c ((show ∀ c, c ∈ ([1, 3, 4, 45, 61, 62, 63] : List Nat) → c ∉ ([100] : List Nat) by decide) c hc))
  · exact RW_cg hW (fun c hc => F c ((show ∀ c, c ∈ ([3, 56, 66, 135] : List Nat) → c ∉ ([100] : List Nat) by decide) c hc))
  · exact RR_cg hR (fun c hc => F c ((show ∀ c, c ∈ ([11, 12, 13, 80, 81, 82, 122, 123, 125] : List Nat) → c ∉ ([100] : List Nat) by decide) c hc))
  · exact RS_cg hS (fun c hc => F c ((show ∀ c, c ∈ ([19, 86, 113] : List Nat) → c ∉ ([100] : List Nat) by decide) c hc))
  · exact key

theorem st_ownerOf {g u1 u2 : gh} {r1 r2 p1 p2 : Int32} (h : RLA g) (f1 : ∀ c, c ∉ ([] : List Nat) → u1 c = g c) (f2 : ∀ c, c ∉ ([100] : List Nat) → u2 c = u1 c)
    (c0 : r1.toInt = oo_c (g 2 0) (g 51) (g 52) (g 50) (g 53 p1.toInt.toNat) (g 54) (if 0 ≤ g 56 p1.toInt.toNat then 1 else 0) p1.toInt p2.toInt)
    (m0 : r2.toInt = oo_c (u1 104 0) (u1 106) (u1 107) (u1 105) (cnt 318 (u1 109) p1.toInt : Int) (u1 108) (if u1 135 (4 * (200 + p1.toInt.toNat) + 3) ≠ 0 then 1 else 0) p1.toInt p2.toInt) : RLA u2 ∧ r1.toInt = r2.toInt := by
  obtain ⟨hC, hO, hF, hG, hT, hW, hR, hS⟩ := h
  have F : ∀ c, c ∉ ([100] : List Nat) → u2 c = g c := fun c hc => by rw [f2 c (fun q => hc ((show ∀ c, c ∈ ([100] : List Nat) → c ∈ ([100] : List Nat) by decide) c q)), f1 c (fun q => hc ((show ∀ c, c ∈ ([] : List Nat) → c ∈ ([100] : List Nat) by decide) c q))]
  have ⟨C1, C2, C3, C4, C5, C6, C14, C18, C33, C34, C35, C1a, C1b, C2a, C2b, C3a, C3b, C5a, C5b, C4a, C6a, C6b, C22a, C22b⟩ := hC
  have ⟨e50, e51, e52, e54, O5, O6⟩ := hO
  have ⟨e41, e42, e43, e44, F5, F6, F7, F8⟩ := hF
  have ⟨e60, e61, e62, e63, e64, e65, e67, e68, G9⟩ := hG
  rw [f1 104 (by decide), f1 106 (by decide), f1 107 (by decide), f1 105 (by decide), f1 109 (by decide), f1 108 (by decide), f1 135 (by decide), ← e51, ← e52, ← e50, ← e43, ← e54, C2] at m0
  have k1 : u2 1 = g 1 := F 1 (by decide)
  have k2 : u2 2 = g 2 := F 2 (by decide)
  have k3 : u2 3 = g 3 := F 3 (by decide)
  have k4 : u2 4 = g 4 := F 4 (by decide)
  have k5 : u2 5 = g 5 := F 5 (by decide)
  have k6 : u2 6 = g 6 := F 6 (by decide)
  have k11 : u2 11 = g 11 := F 11 (by decide)
  have k12 : u2 12 = g 12 := F 12 (by decide)
  have k13 : u2 13 = g 13 := F 13 (by decide)
  have k14 : u2 14 = g 14 := F 14 (by decide)
  have k18 : u2 18 = g 18 := F 18 (by decide)
  have k19 : u2 19 = g 19 := F 19 (by decide)
  have k33 : u2 33 = g 33 := F 33 (by decide)
  have k34 : u2 34 = g 34 := F 34 (by decide)
  have k35 : u2 35 = g 35 := F 35 (by decide)
  have k41 : u2 41 = g 41 := F 41 (by decide)
  have k42 : u2 42 = g 42 := F 42 (by decide)
  have k43 : u2 43 = g 43 := F 43 (by decide)
  have k44 : u2 44 = g 44 := F 44 (by decide)
  have k45 : u2 45 = g 45 := F 45 (by decide)
  have k50 : u2 50 = g 50 := F 50 (by decide)
  have k51 : u2 51 = g 51 := F 51 (by decide)
  have k52 : u2 52 = g 52 := F 52 (by decide)
  have k53 : u2 53 = g 53 := F 53 (by decide)
  have k54 : u2 54 = g 54 := F 54 (by decide)
  have k56 : u2 56 = g 56 := F 56 (by decide)
  have k60 : u2 60 = g 60 := F 60 (by decide)
  have k61 : u2 61 = g 61 := F 61 (by decide)
  have k62 : u2 62 = g 62 := F 62 (by decide)
  have k63 : u2 63 = g 63 := F 63 (by decide)
  have k64 : u2 64 = g 64 := F 64 (by decide)
  have k65 : u2 65 = g 65 := F 65 (by decide)
  have k66 : u2 66 = g 66 := F 66 (by decide)
  have k67 : u2 67 = g 67 := F 67 (by decide)
  have k68 : u2 68 = g 68 := F 68 (by decide)
  have k80 : u2 80 = g 80 := F 80 (by decide)
  have k81 : u2 81 = g 81 := F 81 (by decide)
  have k82 : u2 82 = g 82 := F 82 (by decide)
  have k86 : u2 86 = g 86 := F 86 (by decide)
  have k101 : u2 101 = g 101 := F 101 (by decide)
  have k102 : u2 102 = g 102 := F 102 (by decide)
  have k103 : u2 103 = g 103 := F 103 (by decide)
  have k104 : u2 104 = g 104 := F 104 (by decide)
  have k105 : u2 105 = g 105 := F 105 (by decide)
  have k106 : u2 106 = g 106 := F 106 (by decide)
  have k107 : u2 107 = g 107 := F 107 (by decide)
  have k108 : u2 108 = g 108 := F 108 (by decide)
  have k109 : u2 109 = g 109 := F 109 (by decide)
  have k110 : u2 110 = g 110 := F 110 (by decide)
  have k111 : u2 111 = g 111 := F 111 (by decide)
  have k112 : u2 112 = g 112 := F 112 (by decide)
  have k113 : u2 113 = g 113 := F 113 (by decide)
  have k114 : u2 114 = g 114 := F 114 (by decide)
  have k118 : u2 118 = g 118 := F 118 (by decide)
  have k121 : u2 121 = g 121 := F 121 (by decide)
  have k122 : u2 122 = g 122 := F 122 (by decide)
  have k123 : u2 123 = g 123 := F 123 (by decide)
  have k125 : u2 125 = g 125 := F 125 (by decide)
  have k126 : u2 126 = g 126 := F 126 (by decide)
  have k127 : u2 127 = g 127 := F 127 (by decide)
  have k128 : u2 128 = g 128 := F 128 (by decide)
  have k129 : u2 129 = g 129 := F 129 (by decide)
  have k130 : u2 130 = g 130 := F 130 (by decide)
  have k131 : u2 131 = g 131 := F 131 (by decide)
  have k132 : u2 132 = g 132 := F 132 (by decide)
  have k133 : u2 133 = g 133 := F 133 (by decide)
  have k134 : u2 134 = g 134 := F 134 (by decide)
  have k135 : u2 135 = g 135 := F 135 (by decide)
  have key : r1.toInt = r2.toInt := by
    rw [c0, m0]
    refine oo_z (fun x1 x2 => ⟨?_, ?_⟩)
    · have q := F8 p1.toInt.toNat (by omega)
      rw [show ((p1.toInt.toNat : Nat) : Int) = p1.toInt by omega] at q
      exact q
    · have q := (hW.2 p1.toInt.toNat (by omega)).1
      by_cases e : 0 ≤ g 56 p1.toInt.toNat
      · rw [if_pos e, if_pos (q.mp e)]
      · rw [if_neg e, if_neg (fun y => e (q.mpr y))]
  refine ⟨⟨?_, ?_, ?_, ?_, ?_, ?_, ?_, ?_⟩, ?_⟩
  · exact RC_cg hC (fun c hc => F c ((show ∀ c, c ∈ ([1, 2, 3, 4, 5, 6, 14, 18, 33, 34, 35, 101, 104, 111, 112, 114, 118, 121, 122, 126] : List Nat) → c ∉ ([100] : List Nat) by decide) c hc))
  · exact RO_cg hO (fun c hc => F c ((show ∀ c, c ∈ ([2, 50, 51, 52, 54, 56, 105, 106, 107, 108] : List Nat) → c ∉ ([100] : List Nat) by decide) c hc))
  · exact RF_cg hF (fun c hc => F c ((show ∀ c, c ∈ ([1, 2, 41, 42, 43, 44, 53, 102, 103, 109, 110] : List Nat) → c ∉ ([100] : List Nat) by decide) c hc))
  · exact RG_cg hG (fun c hc => F c ((show ∀ c, c ∈ ([1, 2, 3, 4, 60, 61, 62, 63, 64, 65, 67, 68, 127, 128, 129, 130, 131, 132, 133, 134] : List Nat) → c ∉ ([100] : List Nat) by decide) c hc))
  · exact RT_cg hT (fun c hc => F c ((show ∀ c, c ∈ ([1, 3, 4, 45, 61, 62, 63] : List Nat) → c ∉ ([100] : List Nat) by decide) c hc))
  · exact RW_cg hW (fun c hc => F c ((show ∀ c, c ∈ ([3, 56, 66, 135] : List Nat) → c ∉ ([100] : List Nat) by decide) c hc))
  · exact RR_cg hR (fun c hc => F c ((show ∀ c, c ∈ ([11, 12, 13, 80, 81, 82, 122, 123, 125] : List Nat) → c ∉ ([100] : List Nat) by decide) c hc))
  · exact RS_cg hS (fun c hc => F c ((show ∀ c, c ∈ ([19, 86, 113] : List Nat) → c ∉ ([100] : List Nat) by decide) c hc))
  · exact key

theorem st_fees {g u1 u2 : gh} {r1 r2 p1 p2 : Int32} (h : RLA g) (f1 : ∀ c, c ∉ ([30, 31, 32] : List Nat) → u1 c = g c) (f2 : ∀ c, c ∉ ([100, 146] : List Nat) → u2 c = u1 c) : RLA u2 := by
  obtain ⟨hC, hO, hF, hG, hT, hW, hR, hS⟩ := h
  have F : ∀ c, c ∉ ([30, 31, 32, 100, 146] : List Nat) → u2 c = g c := fun c hc => by rw [f2 c (fun q => hc ((show ∀ c, c ∈ ([100, 146] : List Nat) → c ∈ ([30, 31, 32, 100, 146] : List Nat) by decide) c q)), f1 c (fun q => hc ((show ∀ c, c ∈ ([30, 31, 32] : List Nat) → c ∈ ([30, 31, 32, 100, 146] : List Nat) by decide) c q))]
  have ⟨C1, C2, C3, C4, C5, C6, C14, C18, C33, C34, C35, C1a, C1b, C2a, C2b, C3a, C3b, C5a, C5b, C4a, C6a, C6b, C22a, C22b⟩ := hC
  have ⟨e50, e51, e52, e54, O5, O6⟩ := hO
  have ⟨e41, e42, e43, e44, F5, F6, F7, F8⟩ := hF
  have ⟨e60, e61, e62, e63, e64, e65, e67, e68, G9⟩ := hG
  have k30 : u2 30 = u1 30 := f2 30 (by decide)
  have k31 : u2 31 = u1 31 := f2 31 (by decide)
  have k32 : u2 32 = u1 32 := f2 32 (by decide)
  have k1 : u2 1 = g 1 := F 1 (by decide)
  have k2 : u2 2 = g 2 := F 2 (by decide)
  have k3 : u2 3 = g 3 := F 3 (by decide)
  have k4 : u2 4 = g 4 := F 4 (by decide)
  have k5 : u2 5 = g 5 := F 5 (by decide)
  have k6 : u2 6 = g 6 := F 6 (by decide)
  have k11 : u2 11 = g 11 := F 11 (by decide)
  have k12 : u2 12 = g 12 := F 12 (by decide)
  have k13 : u2 13 = g 13 := F 13 (by decide)
  have k14 : u2 14 = g 14 := F 14 (by decide)
  have k18 : u2 18 = g 18 := F 18 (by decide)
  have k19 : u2 19 = g 19 := F 19 (by decide)
  have k33 : u2 33 = g 33 := F 33 (by decide)
  have k34 : u2 34 = g 34 := F 34 (by decide)
  have k35 : u2 35 = g 35 := F 35 (by decide)
  have k41 : u2 41 = g 41 := F 41 (by decide)
  have k42 : u2 42 = g 42 := F 42 (by decide)
  have k43 : u2 43 = g 43 := F 43 (by decide)
  have k44 : u2 44 = g 44 := F 44 (by decide)
  have k45 : u2 45 = g 45 := F 45 (by decide)
  have k50 : u2 50 = g 50 := F 50 (by decide)
  have k51 : u2 51 = g 51 := F 51 (by decide)
  have k52 : u2 52 = g 52 := F 52 (by decide)
  have k53 : u2 53 = g 53 := F 53 (by decide)
  have k54 : u2 54 = g 54 := F 54 (by decide)
  have k56 : u2 56 = g 56 := F 56 (by decide)
  have k60 : u2 60 = g 60 := F 60 (by decide)
  have k61 : u2 61 = g 61 := F 61 (by decide)
  have k62 : u2 62 = g 62 := F 62 (by decide)
  have k63 : u2 63 = g 63 := F 63 (by decide)
  have k64 : u2 64 = g 64 := F 64 (by decide)
  have k65 : u2 65 = g 65 := F 65 (by decide)
  have k66 : u2 66 = g 66 := F 66 (by decide)
  have k67 : u2 67 = g 67 := F 67 (by decide)
  have k68 : u2 68 = g 68 := F 68 (by decide)
  have k80 : u2 80 = g 80 := F 80 (by decide)
  have k81 : u2 81 = g 81 := F 81 (by decide)
  have k82 : u2 82 = g 82 := F 82 (by decide)
  have k86 : u2 86 = g 86 := F 86 (by decide)
  have k101 : u2 101 = g 101 := F 101 (by decide)
  have k102 : u2 102 = g 102 := F 102 (by decide)
  have k103 : u2 103 = g 103 := F 103 (by decide)
  have k104 : u2 104 = g 104 := F 104 (by decide)
  have k105 : u2 105 = g 105 := F 105 (by decide)
  have k106 : u2 106 = g 106 := F 106 (by decide)
  have k107 : u2 107 = g 107 := F 107 (by decide)
  have k108 : u2 108 = g 108 := F 108 (by decide)
  have k109 : u2 109 = g 109 := F 109 (by decide)
  have k110 : u2 110 = g 110 := F 110 (by decide)
  have k111 : u2 111 = g 111 := F 111 (by decide)
  have k112 : u2 112 = g 112 := F 112 (by decide)
  have k113 : u2 113 = g 113 := F 113 (by decide)
  have k114 : u2 114 = g 114 := F 114 (by decide)
  have k118 : u2 118 = g 118 := F 118 (by decide)
  have k121 : u2 121 = g 121 := F 121 (by decide)
  have k122 : u2 122 = g 122 := F 122 (by decide)
  have k123 : u2 123 = g 123 := F 123 (by decide)
  have k125 : u2 125 = g 125 := F 125 (by decide)
  have k126 : u2 126 = g 126 := F 126 (by decide)
  have k127 : u2 127 = g 127 := F 127 (by decide)
  have k128 : u2 128 = g 128 := F 128 (by decide)
  have k129 : u2 129 = g 129 := F 129 (by decide)
  have k130 : u2 130 = g 130 := F 130 (by decide)
  have k131 : u2 131 = g 131 := F 131 (by decide)
  have k132 : u2 132 = g 132 := F 132 (by decide)
  have k133 : u2 133 = g 133 := F 133 (by decide)
  have k134 : u2 134 = g 134 := F 134 (by decide)
  have k135 : u2 135 = g 135 := F 135 (by decide)
  exact ⟨RC_cg hC (fun c hc => F c ((show ∀ c, c ∈ ([1, 2, 3, 4, 5, 6, 14, 18, 33, 34, 35, 101, 104, 111, 112, 114, 118, 121, 122, 126] : List Nat) → c ∉ ([30, 31, 32, 100, 146] : List Nat) by decide) c hc)), RO_cg hO (fun c hc => F c ((show ∀ c, c ∈ ([2, 50, 51, 52, 54, 56, 105, 106, 107, 108] : List Nat) → c ∉ ([30, 31, 32, 100, 146] : List Nat) by decide) c hc)), RF_cg hF (fun c hc => F c ((show ∀ c, c ∈ ([1, 2, 41, 42, 43, 44, 53, 102, 103, 109, 110] : List Nat) → c ∉ ([30, 31, 32, 100, 146] : List Nat) by decide) c hc)), RG_cg hG (fun c hc => F c ((show ∀ c, c ∈ ([1, 2, 3, 4, 60, 61, 62, 63, 64, 65, 67, 68, 127, 128, 129, 130, 131, 132, 133, 134] : List Nat) → c ∉ ([30, 31, 32, 100, 146] : List Nat) by decide) c hc)), RT_cg hT (fun c hc => F c ((show ∀ c, c ∈ ([1, 3, 4, 45, 61, 62, 63] : List Nat) → c ∉ ([30, 31, 32, 100, 146] : List Nat) by decide) c hc)), RW_cg hW (fun c hc => F c ((show ∀ c, c ∈ ([3, 56, 66, 135] : List Nat) → c ∉ ([30, 31, 32, 100, 146] : List Nat) by decide) c hc)), RR_cg hR (fun c hc => F c ((show ∀ c, c ∈ ([11, 12, 13, 80, 81, 82, 122, 123, 125] : List Nat) → c ∉ ([30, 31, 32, 100, 146] : List Nat) by decide) c hc)), RS_cg hS (fun c hc => F c ((show ∀ c, c ∈ ([19, 86, 113] : List Nat) → c ∉ ([30, 31, 32, 100, 146] : List Nat) by decide) c hc))⟩

/-- how it begins -/
theorem RLA_0 {g : gh} (h1 : ∀ c, c ∈ [1, 2, 3, 4, 5, 6, 18, 33, 34, 35, 101, 104, 111, 112, 114, 118, 122, 126, 13] → g c 0 = 0) (h14 : g 121 0 = g 14 0) (h12 : g 12 0 = 1) (hz : ∀ c, c ∈ [50, 51, 52, 53, 54, 105, 106, 107, 108, 41, 42, 102, 103, 44, 110, 60, 61, 62, 63, 64, 65, 67, 68, 127, 128, 129, 130, 131, 132, 133, 134, 135, 80, 81, 11, 123, 125, 86, 113, 19] → ∀ j, g c j = 0) (h56 : ∀ j, g 56 j = -1) (e43 : g 43 = g 109) (h43 : ∀ j, j < 318 → g 43 j = -1) (h82 : ∀ j, j < 53 → g 82 j = -1) : RLA g := by
  have eq : ∀ a b, a ∈ [50, 51, 52, 53, 54, 105, 106, 107, 108, 41, 42, 102, 103, 44, 110, 60, 61, 62, 63, 64, 65, 67, 68, 127, 128, 129, 130, 131, 132, 133, 134, 135, 80, 81, 11, 123, 125, 86, 113, 19] → b ∈ [50, 51, 52, 53, 54, 105, 106, 107, 108, 41, 42, 102, 103, 44, 110, 60, 61, 62, 63, 64, 65, 67, 68, 127, 128, 129, 130, 131, 132, 133, 134, 135, 80, 81, 11, 123, 125, 86, 113, 19] → g a = g b := fun a b ha hb => funext fun j => by rw [hz a ha j, hz b hb j]
  have n1 := h1 1 (by decide); have n2 := h1 2 (by decide); have n3 := h1 3 (by decide); have n4 := h1 4 (by decide); have n5 := h1 5 (by decide); have n6 := h1 6 (by decide); have n18 := h1 18 (by decide); have n33 := h1 33 (by decide); have n34 := h1 34 (by decide); have n35 := h1 35 (by decide); have n101 := h1 101 (by decide); have n104 := h1 104 (by decide); have n111 := h1 111 (by decide); have n112 := h1 112 (by decide); have n114 := h1 114 (by decide); have n118 := h1 118 (by decide); have n122 := h1 122 (by decide); have n126 := h1 126 (by decide); have n13 := h1 13 (by decide)
  refine ⟨?_, ?_, ?_, ?_, ?_, ?_, ?_, ?_⟩
  · unfold RC; omega
  · exact ⟨eq _ _ (by decide) (by decide), eq _ _ (by decide) (by decide), eq _ _ (by decide) (by decide), eq _ _ (by decide) (by decide), fun n _ => ⟨hz 51 (by decide) n, hz 52 (by decide) n, hz 54 (by decide) n, h56 n⟩, fun n h => absurd (hz 54 (by decide) n) h⟩
  · refine ⟨eq _ _ (by decide) (by decide), eq _ _ (by decide) (by decide), e43, eq _ _ (by decide) (by decide), fun j _ => ⟨h43 j, hz 44 (by decide) j⟩, fun f hf => absurd hf (by omega), fun j hj => by rw [h43 j hj, n2]; omega, fun o ho => ?_⟩
    rw [hz 53 (by decide) o, cnt_none 318 (fun j hj => by rw [h43 j hj]; omega)]; rfl
  · exact ⟨eq _ _ (by decide) (by decide), eq _ _ (by decide) (by decide), eq _ _ (by decide) (by decide), eq _ _ (by decide) (by decide), eq _ _ (by decide) (by decide), eq _ _ (by decide) (by decide), eq _ _ (by decide) (by decide), eq _ _ (by decide) (by decide), fun k hk => absurd hk (by omega)⟩
  · exact fun f w hf => absurd hf (by omega)
  · refine ⟨fun k hk => absurd hk (by omega), fun o _ => ?_⟩
    rw [h56 o]
    exact ⟨⟨fun h => absurd h (by omega), fun h => absurd (hz 135 (by decide) _) h⟩, fun h => absurd h (by omega)⟩
  · refine ⟨Or.inl n13, by omega, ?_, ⟨fun j => by rw [hz 123 (by decide) j]; omega, fun k h => by rw [hz 123 (by decide) _] at h; omega⟩, ⟨fun j => by rw [hz 125 (by decide) j]; omega, fun k h => by rw [hz 125 (by decide) _] at h; omega⟩⟩
    rw [n13, n122]
    exact ⟨fun w _ => by rw [hz 80 (by decide) _]; rfl, fun s _ _ => by rw [hz 81 (by decide) _]; rfl, fun a ha => by rw [h82 _ (by omega)]; rfl, by rw [hz 11 (by decide) _]; rfl⟩
  · exact ⟨hz 86 (by decide) 0, funext fun j => by rw [hz 113 (by decide) j, hz 19 (by decide) j]; rfl⟩
