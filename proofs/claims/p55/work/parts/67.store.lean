/-! THE STORE: how it lies, and what it holds -/
def LY (σ : St) : Prop := gK σ 2 = 7 ∧ gR σ 2 0 = some 3 ∧ gR σ 2 1 = some 25 ∧ gR σ 2 2 = some 203 ∧ gR σ 2 3 = some 204 ∧ gR σ 2 4 = some 219 ∧ gR σ 2 5 = some 220 ∧ gR σ 2 6 = some 221 ∧ gR σ 2 7 = some 222 ∧ gR σ 2 8 = some 223 ∧ gR σ 2 9 = some 224 ∧ gR σ 2 10 = some 225 ∧ gK σ 203 = 15 ∧ gN σ 203 = 4 ∧ (∀ i, i < 4 → gR σ 203 i = some (226 + 153 * i)) ∧ gK σ 219 = 2 ∧ gK σ 220 = 10 ∧ gN σ 220 = 4 ∧ gK σ 221 = 5 ∧ gK σ 222 = 5 ∧ gK σ 223 = 5 ∧ gK σ 224 = 5 ∧ gK σ 225 = 5 ∧ StL σ 3 ∧ HiL σ 25 ∧ (∀ i, i < 4 → CoL σ (226 + 153 * i))
theorem LY.of {T : Nat → Prop} {σ σ' : St} (h : OF T σ σ') (hl : LY σ) : LY σ' := by
  unfold LY at hl ⊢
  rw [h.K, h.N, h.R]
  obtain ⟨tk, t0, t1, t2, t3, t4, t5, t6, t7, t8, t9, t10, kcs, ncs, rcs, kdr, ksa, nsa, ks1, ks2, ks3, ks4, ks5, hst, hhi, hco⟩ := hl
  exact ⟨tk, t0, t1, t2, t3, t4, t5, t6, t7, t8, t9, t10, kcs, ncs, rcs, kdr, ksa, nsa, ks1, ks2, ks3, ks4, ks5, hst.of h, hhi.of h, fun i hi => (hco i hi).of h⟩
theorem LY.bm {σ : St} (hl : LY σ) : LY (bmp σ) := hl
/-- what the store holds: rows that are there, their values (100 without one), filters, packed sets, conditions -/
abbrev PS : Type := (Nat → Bool) × (Nat → Nat → Int) × (Nat → Nat → Bool) × (Nat → Nat → Bool) × Nat × (Nat → Nat → Int)
def pT (a : PS) : Nat → Bool := a.1
def pV (a : PS) : Nat → Nat → Int := a.2.1
def pF (a : PS) : Nat → Nat → Bool := a.2.2.1
def pP (a : PS) : Nat → Nat → Bool := a.2.2.2.1
def pM (a : PS) : Nat := a.2.2.2.2.1
def pC (a : PS) : Nat → Nat → Int := a.2.2.2.2.2
def WF (a : PS) : Prop := (∀ r, 120 ≤ r → pT a r = false) ∧ (∀ r c, pT a r = false → pV a r c = 100) ∧ (∀ r c, pV a r c = 100 ∨ isv (pV a r c) = true) ∧ (∀ f r, pF a f r = true → pT a r = true) ∧ (∀ p n, 120 ≤ n → pP a p n = false) ∧ pM a ≤ 4 ∧ (∀ i, i < pM a → (0 ≤ pC a i 0 ∧ pC a i 0 ≤ 3) ∧ (0 ≤ pC a i 1 ∧ pC a i 1 ≤ 7) ∧ isv (pC a i 2) = true)
/-- a state's place holds it -/
def CS (σ : St) (s : Nat) (a : PS) : Prop := ss σ (s + 1) = pT a ∧ (∀ r, r < 120 → ∀ c, c < 4 → gI σ (s + 2) (r * 4 + c) = iv (pV a r c)) ∧ (∀ f, f < 8 → ss σ (s + 4 + f) = pF a f) ∧ (∀ p, p < 4 → ss σ (s + 13 + p) = pP a p) ∧ gI σ s 5 = iv (pM a) ∧ (∀ i, i < pM a → ∀ k, k < 3 → gI σ (s + 18 + i) k = iv (pC a i k))
/-- a column's sets hold its values -/
def KC (σ : St) (a : PS) : Prop := ∀ c, c < 4 → CC σ (226 + 153 * c) (fun r => pV a r c)
def HS (σ : St) (n : Nat) (hs : Nat → PS) : Prop := ∃ free, HiS σ 25 free n ∧ ∀ i, i < n → WF (hs i) ∧ CS σ (27 + 22 * ((free + 7 - i) % 8)) (hs i)
/-- the store holds this, and these states ahead of the latest changes -/
def BI (σ : St) (a : PS) (n : Nat) (hs : Nat → PS) : Prop := LY σ ∧ AW σ ∧ WF a ∧ CS σ 3 a ∧ KC σ a ∧ HS σ n hs
theorem CS.of {T : Nat → Prop} {σ σ' : St} {s : Nat} {a : PS} (h : OF T σ σ') (ht : ∀ p, inS s p → ¬ T p) (hc : CS σ s a) (hm : pM a ≤ 4) : CS σ' s a := by
  obtain ⟨c1, c2, c3, c4, c5, c6⟩ := hc
  refine ⟨?_, fun r hr c hc => ?_, fun f hf => ?_, fun p hp => ?_, ?_, fun i hi k hk => ?_⟩
  · rw [(h.2.2 _ (ht _ (by unfold inS; omega))).1]; exact c1
  · rw [(h.2.2 _ (ht _ (by unfold inS; omega))).2]; exact c2 r hr c hc
  · rw [(h.2.2 _ (ht _ (by unfold inS; omega))).1]; exact c3 f hf
  · rw [(h.2.2 _ (ht _ (by unfold inS; omega))).1]; exact c4 p hp
  · rw [(h.2.2 _ (ht _ (by unfold inS; omega))).2]; exact c5
  · rw [(h.2.2 _ (ht _ (by unfold inS; omega))).2]; exact c6 i hi k hk
theorem KC.of {T : Nat → Prop} {σ σ' : St} {a : PS} (h : OF T σ σ') (ht : ∀ p, 226 ≤ p → p < 838 → (∀ i, i < 4 → ¬ tmp (226 + 153 * i) p) → ¬ T p) (hc : KC σ a) : KC σ' a := by
  intro c hcc
  refine (hc c hcc).of2 h (fun p hp => ht p ?_ ?_ (fun i hi => ?_))
  · unfold perm at hp; omega
  · unfold perm at hp; omega
  · unfold perm at hp; unfold tmp; omega
theorem HS.of {T : Nat → Prop} {σ σ' : St} {n : Nat} {hs : Nat → PS} (h : OF T σ σ') (ht : ∀ p, 25 ≤ p → p ≤ 202 → ¬ T p) (hc : HS σ n hs) : HS σ' n hs := by
  obtain ⟨free, ⟨h1, h2, h3, h4⟩, h5⟩ := hc
  refine ⟨free, ⟨?_, ?_, h3, h4⟩, fun i hi => ⟨(h5 i hi).1, (h5 i hi).2.of h (fun p hp => ht p ?_ ?_) (h5 i hi).1.2.2.2.2.2.1⟩⟩
  · rw [(h.2.2 25 (ht 25 (by omega) (by omega))).2]; exact h1
  · rw [(h.2.2 25 (ht 25 (by omega) (by omega))).2]; exact h2
  · unfold inS at hp; omega
  · unfold inS at hp; omega
theorem BI.bm {σ : St} {a : PS} {n : Nat} {hs : Nat → PS} (h : BI σ a n hs) : BI (bmp σ) a n hs := h
