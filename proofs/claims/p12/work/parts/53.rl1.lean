/-! ===== what the two sides hold in common ===== -/
def RC (g : gh) : Prop := g 101 0 = g 1 0 ∧ g 104 0 = g 2 0 ∧ g 126 0 = g 3 0 ∧ g 111 0 = g 4 0 ∧ g 112 0 = g 5 0 ∧ g 114 0 = g 6 0 ∧ g 121 0 = g 14 0 ∧ g 118 0 = g 18 0 ∧ g 1 0 = g 33 0 ∧ g 2 0 = g 34 0 ∧ g 3 0 = g 35 0 ∧ 0 ≤ g 1 0 ∧ g 1 0 ≤ 6 ∧ 0 ≤ g 2 0 ∧ g 2 0 ≤ 10 ∧ 0 ≤ g 3 0 ∧ g 3 0 ≤ 200 ∧ 0 ≤ g 5 0 ∧ g 5 0 ≤ 52 ∧ 0 ≤ g 4 0 ∧ 0 ≤ g 6 0 ∧ g 6 0 ≤ 300 ∧ 0 ≤ g 122 0 ∧ g 122 0 ≤ 30
def RO (g : gh) : Prop := g 50 = g 105 ∧ g 51 = g 106 ∧ g 52 = g 107 ∧ g 54 = g 108 ∧ (∀ n, (g 2 0).toNat ≤ n → g 51 n = 0 ∧ g 52 n = 0 ∧ g 54 n = 0 ∧ g 56 n = -1) ∧ (∀ n, g 54 n ≠ 0 → g 56 n < 0)
def RF (g : gh) : Prop := g 41 = g 102 ∧ g 42 = g 103 ∧ g 43 = g 109 ∧ g 44 = g 110 ∧ (∀ j, 53 * (g 1 0).toNat ≤ j → (j < 318 → g 43 j = -1) ∧ g 44 j = 0) ∧ (∀ f, f < (g 1 0).toNat → 1 ≤ g 42 f ∧ g 42 f ≤ 4) ∧ (∀ j, j < 318 → -1 ≤ g 43 j ∧ g 43 j < g 2 0) ∧ OW (g 43) (g 53)
def RG (g : gh) : Prop := g 60 = g 127 ∧ g 61 = g 128 ∧ g 62 = g 129 ∧ g 63 = g 130 ∧ g 64 = g 131 ∧ g 65 = g 132 ∧ g 67 = g 133 ∧ g 68 = g 134 ∧ (∀ k, k < (g 3 0).toNat → 0 ≤ g 60 k ∧ g 60 k < g 2 0 ∧ 0 ≤ g 61 k ∧ g 61 k < g 1 0 ∧ 0 ≤ g 62 k ∧ g 62 k ≤ 52 ∧ g 63 k ≤ g 4 0 ∧ 0 ≤ g 64 k ∧ g 64 k ≤ 29997)
def RT (g : gh) : Prop := ∀ f w : Nat, f < (g 1 0).toNat → w < 53 → g 45 (53 * f + w) = ga_f (g 61) (g 62) (g 63) (f : Int) (w : Int) (g 4 0) (g 3 0).toNat
def RW (g : gh) : Prop := (∀ k, k < (g 3 0).toNat → WR (g 66 k) (g 135) k) ∧ (∀ o, o < 10 → WR (g 56 o) (g 135) (200 + o))
def RRg (r : Nat → Int) : Prop := (∀ j, 0 ≤ r j ∧ r j ≤ 9999) ∧ ∀ k, r (4 * k) = 2 → r (4 * k + 1) ≤ 52
def RR (g : gh) : Prop := (g 13 0 = 0 ∨ g 13 0 = 1) ∧ g 12 0 = 1 - g 13 0 ∧ BLK (64 * (g 13 0).toNat) (g 80) (g 81) (g 82) (g 11 (g 13 0).toNat) (g 123) (g 122 0).toNat ∧ RRg (g 123) ∧ RRg (g 125)
def RS (g : gh) : Prop := g 86 0 = 0 ∧ (fun j => g 113 j % 256) = g 19
def RLA (g : gh) : Prop := RC g ∧ RO g ∧ RF g ∧ RG g ∧ RT g ∧ RW g ∧ RR g ∧ RS g

theorem RC_cg {g u : gh} (h : RC g) (e : ∀ c, c ∈ [1, 2, 3, 4, 5, 6, 14, 18, 33, 34, 35, 101, 104, 111, 112, 114, 118, 121, 122, 126] → u c = g c) : RC u := by
  unfold RC at h ⊢
  rw [e 1 (by decide), e 2 (by decide), e 3 (by decide), e 4 (by decide), e 5 (by decide), e 6 (by decide), e 14 (by decide), e 18 (by decide), e 33 (by decide), e 34 (by decide), e 35 (by decide), e 101 (by decide), e 104 (by decide), e 111 (by decide), e 112 (by decide), e 114 (by decide), e 118 (by decide), e 121 (by decide), e 122 (by decide), e 126 (by decide)]
  exact h
theorem RO_cg {g u : gh} (h : RO g) (e : ∀ c, c ∈ [2, 50, 51, 52, 54, 56, 105, 106, 107, 108] → u c = g c) : RO u := by
  unfold RO at h ⊢
  rw [e 2 (by decide), e 50 (by decide), e 51 (by decide), e 52 (by decide), e 54 (by decide), e 56 (by decide), e 105 (by decide), e 106 (by decide), e 107 (by decide), e 108 (by decide)]
  exact h
theorem RF_cg {g u : gh} (h : RF g) (e : ∀ c, c ∈ [1, 2, 41, 42, 43, 44, 53, 102, 103, 109, 110] → u c = g c) : RF u := by
  unfold RF at h ⊢
  rw [e 1 (by decide), e 2 (by decide), e 41 (by decide), e 42 (by decide), e 43 (by decide), e 44 (by decide), e 53 (by decide), e 102 (by decide), e 103 (by decide), e 109 (by decide), e 110 (by decide)]
  exact h
theorem RG_cg {g u : gh} (h : RG g) (e : ∀ c, c ∈ [1, 2, 3, 4, 60, 61, 62, 63, 64, 65, 67, 68, 127, 128, 129, 130, 131, 132, 133, 134] → u c = g c) : RG u := by
  unfold RG at h ⊢
  rw [e 1 (by decide), e 2 (by decide), e 3 (by decide), e 4 (by decide), e 60 (by decide), e 61 (by decide), e 62 (by decide), e 63 (by decide), e 64 (by decide), e 65 (by decide), e 67 (by decide), e 68 (by decide), e 127 (by decide), e 128 (by decide), e 129 (by decide), e 130 (by decide), e 131 (by decide), e 132 (by decide), e 133 (by decide), e 134 (by decide)]
  exact h
theorem RT_cg {g u : gh} (h : RT g) (e : ∀ c, c ∈ [1, 3, 4, 45, 61, 62, 63] → u c = g c) : RT u := by
  unfold RT at h ⊢
  rw [e 1 (by decide), e 3 (by decide), e 4 (by decide), e 45 (by decide), e 61 (by decide), e 62 (by decide), e 63 (by decide)]
  exact h
theorem RW_cg {g u : gh} (h : RW g) (e : ∀ c, c ∈ [3, 56, 66, 135] → u c = g c) : RW u := by
  unfold RW at h ⊢
  rw [e 3 (by decide), e 56 (by decide), e 66 (by decide), e 135 (by decide)]
  exact h
theorem RR_cg {g u : gh} (h : RR g) (e : ∀ c, c ∈ [11, 12, 13, 80, 81, 82, 122, 123, 125] → u c = g c) : RR u := by
  unfold RR at h ⊢
  rw [e 11 (by decide), e 12 (by decide), e 13 (by decide), e 80 (by decide), e 81 (by decide), e 82 (by decide), e 122 (by decide), e 123 (by decide), e 125 (by decide)]
  exact h
theorem RS_cg {g u : gh} (h : RS g) (e : ∀ c, c ∈ [19, 86, 113] → u c = g c) : RS u := by
  unfold RS at h ⊢
  rw [e 19 (by decide), e 86 (by decide), e 113 (by decide)]
  exact h

theorem st_bank {g u1 u2 : gh} {r1 r2 p1 : Int32} (h : RLA g) (f1 : ∀ c, c ∉ ([51, 65] : List Nat) → u1 c = g c) (f2 : ∀ c, c ∉ ([100, 106, 132] : List Nat) → u2 c = u1 c)
    (c0 : ((0 ≤ p1.toInt ∧ p1.toInt < g 3 0 ∧ g 65 p1.toInt.toNat = 0) → r1.toInt = (wa (g 51 (g 60 p1.toInt.toNat).toNat) (g 64 p1.toInt.toNat)) ∧ u1 65 = pz_up (g 65) p1.toInt.toNat 2 ∧ u1 51 = pz_up (g 51) (g 60 p1.toInt.toNat).toNat (wa (g 51 (g 60 p1.toInt.toNat).toNat) (g 64 p1.toInt.toNat))) ∧ (¬ ((0 ≤ p1.toInt ∧ p1.toInt < g 3 0 ∧ g 65 p1.toInt.toNat = 0)) → r1.toInt = -1 ∧ u1 65 = g 65 ∧ u1 51 = g 51))
    (m0 : ((0 ≤ p1.toInt ∧ p1.toInt < u1 126 0 ∧ u1 132 p1.toInt.toNat = 0) → r2.toInt = (wa (u1 106 (u1 127 p1.toInt.toNat).toNat) (u1 131 p1.toInt.toNat)) ∧ u2 132 = pz_up (u1 132) p1.toInt.toNat 2 ∧ u2 106 = pz_up (u1 106) (u1 127 p1.toInt.toNat).toNat (wa (u1 106 (u1 127 p1.toInt.toNat).toNat) (u1 131 p1.toInt.toNat))) ∧ (¬ ((0 ≤ p1.toInt ∧ p1.toInt < u1 126 0 ∧ u1 132 p1.toInt.toNat = 0)) → r2.toInt = -1 ∧ u2 132 = u1 132 ∧ u2 106 = u1 106)) : RLA u2 ∧ r1.toInt = r2.toInt := by
  obtain ⟨hC, hO, hF, hG, hT, hW, hR, hS⟩ := h
  have F : ∀ c, c ∉ ([51, 65, 100, 106, 132] : List Nat) → u2 c = g c := fun c hc => by rw [f2 c (fun q => hc ((show ∀ c, c ∈ ([100, 106, 132] : List Nat) → c ∈ ([51, 65, 100, 106, 132] : List Nat) by decide) c q)), f1 c (fun q => hc ((show ∀ c, c ∈ ([51, 65] : List Nat) → c ∈ ([51, 65, 100, 106, 132] : List Nat) by decide) c q))]
  have ⟨C1, C2, C3, C4, C5, C6, C14, C18, C33, C34, C35, C1a, C1b, C2a, C2b, C3a, C3b, C5a, C5b, C4a, C6a, C6b, C22a, C22b⟩ := hC
  have ⟨e50, e51, e52, e54, O5, O6⟩ := hO
  have ⟨e41, e42, e43, e44, F5, F6, F7, F8⟩ := hF
  have ⟨e60, e61, e62, e63, e64, e65, e67, e68, G9⟩ := hG
  rw [f1 126 (by decide), f1 132 (by decide), f1 106 (by decide), f1 127 (by decide), f1 131 (by decide), ← e65, ← e51, ← e60, ← e64, C3] at m0
  have k51 : u2 51 = u1 51 := f2 51 (by decide)
  have k65 : u2 65 = u1 65 := f2 65 (by decide)
  have k2 : u2 2 = g 2 := F 2 (by decide)
  have k50 : u2 50 = g 50 := F 50 (by decide)
  have k52 : u2 52 = g 52 := F 52 (by decide)
  have k54 : u2 54 = g 54 := F 54 (by decide)
  have k56 : u2 56 = g 56 := F 56 (by decide)
  have k105 : u2 105 = g 105 := F 105 (by decide)
  have k107 : u2 107 = g 107 := F 107 (by decide)
  have k108 : u2 108 = g 108 := F 108 (by decide)
  have k1 : u2 1 = g 1 := F 1 (by decide)
  have k3 : u2 3 = g 3 := F 3 (by decide)
  have k4 : u2 4 = g 4 := F 4 (by decide)
  have k60 : u2 60 = g 60 := F 60 (by decide)
  have k61 : u2 61 = g 61 := F 61 (by decide)
  have k62 : u2 62 = g 62 := F 62 (by decide)
  have k63 : u2 63 = g 63 := F 63 (by decide)
  have k64 : u2 64 = g 64 := F 64 (by decide)
  have k67 : u2 67 = g 67 := F 67 (by decide)
  have k68 : u2 68 = g 68 := F 68 (by decide)
  have k127 : u2 127 = g 127 := F 127 (by decide)
  have k128 : u2 128 = g 128 := F 128 (by decide)
  have k129 : u2 129 = g 129 := F 129 (by decide)
  have k130 : u2 130 = g 130 := F 130 (by decide)
  have k131 : u2 131 = g 131 := F 131 (by decide)
  have k133 : u2 133 = g 133 := F 133 (by decide)
  have k134 : u2 134 = g 134 := F 134 (by decide)
  have key : u2 65 = u2 132 ∧ u2 51 = u2 106 ∧ r1.toInt = r2.toInt ∧ (∀ n, (g 2 0).toNat ≤ n → u2 51 n = 0) := by
    by_cases A : 0 ≤ p1.toInt ∧ p1.toInt < g 3 0 ∧ g 65 p1.toInt.toNat = 0
    · obtain ⟨a1, a2, a3⟩ := c0.1 A
      obtain ⟨b1, b2, b3⟩ := m0.1 A
      refine ⟨by rw [k65, a2, b2], by rw [k51, a3, b3], by rw [a1, b1], fun n hn => ?_⟩
      have := G9 p1.toInt.toNat (by omega)
      rw [k51, a3, pz_up_n (by omega)]; exact (O5 n hn).1
    · obtain ⟨a1, a2, a3⟩ := c0.2 A
      obtain ⟨b1, b2, b3⟩ := m0.2 A
      exact ⟨by rw [k65, a2, b2], by rw [k51, a3, b3], by rw [a1, b1], fun n hn => by rw [k51, a3]; exact (O5 n hn).1⟩
  refine ⟨⟨?_, ?_, ?_, ?_, ?_, ?_, ?_, ?_⟩, ?_⟩
  · exact RC_cg hC (fun c hc => F c ((show ∀ c, c ∈ ([1, 2, 3, 4, 5, 6, 14, 18, 33, 34, 35, 101, 104, 111, 112, 114, 118, 121, 122, 126] : List Nat) → c ∉ ([51, 65, 100, 106, 132] : List Nat) by decide) c hc))
  · exact ⟨by rw [k50, k105]; exact e50, key.2.1, by rw [k52, k107]; exact e52, by rw [k54, k108]; exact e54, fun n hn => by rw [k2] at hn; exact ⟨key.2.2.2 n hn, by rw [k52, k54, k56]; exact (O5 n hn).2⟩, by rw [k54, k56]; exact O6⟩
  · exact RF_cg hF (fun c hc => F c ((show ∀ c, c ∈ ([1, 2, 41, 42, 43, 44, 53, 102, 103, 109, 110] : List Nat) → c ∉ ([51, 65, 100, 106, 132] : List Nat) by decide) c hc))
  · exact ⟨by rw [k60, k127]; exact e60, by rw [k61, k128]; exact e61, by rw [k62, k129]; exact e62, by rw [k63, k130]; exact e63, by rw [k64, k131]; exact e64, key.1, by rw [k67, k133]; exact e67, by rw [k68, k134]; exact e68, by rw [k1, k2, k3, k4, k60, k61, k62, k63, k64]; exact G9⟩
  · exact RT_cg hT (fun c hc => F c ((show ∀ c, c ∈ ([1, 3, 4, 45, 61, 62, 63] : List Nat) → c ∉ ([51, 65, 100, 106, 132] : List Nat) by decide) c hc))
  · exact RW_cg hW (fun c hc => F c ((show ∀ c, c ∈ ([3, 56, 66, 135] : List Nat) → c ∉ ([51, 65, 100, 106, 132] : List Nat) by decide) c hc))
  · exact RR_cg hR (fun c hc => F c ((show ∀ c, c ∈ ([11, 12, 13, 80, 81, 82, 122, 123, 125] : List Nat) → c ∉ ([51, 65, 100, 106, 132] : List Nat) by decide) c hc))
  · exact RS_cg hS (fun c hc => F c ((show ∀ c, c ∈ ([19, 86, 113] : List Nat) → c ∉ ([51, 65, 100, 106, 132] : List Nat) by decide) c hc))
  · exact key.2.2.1
