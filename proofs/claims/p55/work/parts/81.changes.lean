/-! CHANGES: what is remembered; what a change writes -/
/-- the history after a change -/
def psh (a : PS) (hs : Nat → PS) (i : Nat) : PS := if i = 0 then a else hs (i - 1)
def hsT (p : Nat) : Prop := 25 ≤ p ∧ p ≤ 202
/-- what changes may write -/
def ow (p : Nat) : Prop := 3 ≤ p ∧ p < 838 ∧ ¬ (204 ≤ p ∧ p ≤ 218)
theorem hsT_ow {p : Nat} (h : hsT p) : ow p := by
  unfold hsT at h
  unfold ow
  omega
theorem sc_ow {p : Nat} (h : sc p) : ow p := by
  unfold sc tmp at h
  unfold ow
  omega
theorem CS.se {σ σ' : St} {s o : Nat} {a : PS} (h : SE σ' s σ o) (hm : pM a ≤ 4) (hc : CS σ o a) : CS σ' s a := by
  obtain ⟨c1, c2, c3, c4, c5, c6⟩ := hc
  obtain ⟨g1, g2, g3, g4, g5, g6⟩ := h
  refine ⟨g1.trans c1, fun r hr c hc => ?_, fun f hf => (g3 f hf).trans (c3 f hf), fun p hp => (g4 p hp).trans (c4 p hp), g6.trans c5, fun i hi k hk => (g5 i (by omega) k hk).trans (c6 i hi k hk)⟩
  rw [g2 _ (by omega)]
  exact c2 r hr c hc
theorem c_rem {σ : St} {Q : Out → St → Prop} {a : PS} {n : Nat} {hs : Nat → PS} (hb : BI σ a n hs) (hQ : ∀ σ', OF hsT σ σ' → BI σ' a (min (n + 1) 8) (psh a hs) → Q (.inl none) σ') : Ex 47 [.ref 25, .ref 3] σ Q := by
  obtain ⟨hly, hw, hwf, hcs, hkc, free, h1, h2⟩ := hb
  have hly2 := hly
  obtain ⟨tk, t0, t1, t2, t3, t4, t5, t6, t7, t8, t9, t10, kcs, ncs, rcs, kdr, ksa, nsa, ks1, ks2, ks3, ks4, ks5, hst, hhi, hco⟩ := hly
  refine x_47 hhi hst hw h1 (by omega) (fun σ' g1 g2 g3 => ?_)
  have hf8 := h1.2.2.1
  have hn8 := h1.2.2.2
  have g1c : OF hsT σ σ' := g1.wk (fun p hp => by unfold inS at hp; unfold hsT; omega)
  refine hQ σ' g1c ⟨hly2.of g1, g1.2.1, hwf, hcs.of g1c (fun p hp => ?_) hwf.2.2.2.2.2.1, hkc.of g1c (fun p h3 h4 _ => ?_), (free + 1) % 8, g3, fun i hi => ?_⟩
  · unfold inS at hp; unfold hsT; omega
  · unfold hsT; omega
  · by_cases h0 : i = 0
    · subst h0
      refine ⟨hwf, ?_⟩
      rw [show 27 + 22 * (((free + 1) % 8 + 7 - 0) % 8) = 25 + 2 + 22 * free by omega]
      exact CS.se g2 hwf.2.2.2.2.2.1 hcs
    · have e : ((free + 1) % 8 + 7 - i) % 8 = (free + 7 - (i - 1)) % 8 := by omega
      have e2 : (free + 7 - (i - 1)) % 8 ≠ free := by omega
      have h5 := h2 (i - 1) (by omega)
      have ep : psh a hs i = hs (i - 1) := if_neg h0
      rw [e, ep]
      refine ⟨h5.1, h5.2.of g1 (fun p hp hx => ?_) h5.1.2.2.2.2.2.1⟩
      unfold inS at hp hx
      omega
def wF (a : PS) (f : Nat) (S : Nat → Bool) : PS := (pT a, pV a, fun g => if g = f then S else pF a g, pP a, pM a, pC a)
def wP (a : PS) (p : Nat) (S : Nat → Bool) : PS := (pT a, pV a, pF a, fun g => if g = p then S else pP a g, pM a, pC a)
def wV (a : PS) (r c : Nat) (v : Int) : PS := (pT a, fun k d => if k = r ∧ d = c then v else pV a k d, pF a, pP a, pM a, pC a)
def wT (a : PS) (r : Nat) (b : Bool) : PS := (fun k => if k = r then b else pT a k, pV a, pF a, pP a, pM a, pC a)
def wC (a : PS) (m : Nat) (C : Nat → Nat → Int) : PS := (pT a, pV a, pF a, pP a, m, C)
theorem BI.F {σ : St} {a : PS} {n : Nat} {hs : Nat → PS} (hb : BI σ a n hs) {σ' : St} {f : Nat} {S : Nat → Bool} (hf : f < 8) (hS : ∀ r, S r = true → pT a r = true) (h : OF (fun p => p = 7 + f ∨ sc p) σ σ') (hs2 : ss σ' (7 + f) = S) : BI σ' (wF a f S) n hs := by
  obtain ⟨hly, hw, hwf, ⟨c1, c2, c3, c4, c5, c6⟩, hkc, hh⟩ := hb
  obtain ⟨w1, w2, w3, w4, w5, w6, w7⟩ := hwf
  have nt : ∀ p, p ≤ 218 → p ≠ 7 + f → ¬ (p = 7 + f ∨ sc p) := fun p h1 h2 hx => by
    unfold sc tmp at hx
    omega
  refine ⟨hly.of h, h.2.1, ⟨w1, w2, w3, fun g r hg => ?_, w5, w6, w7⟩, ⟨?_, fun r hr c hc => ?_, fun g hg => ?_, fun p hp => ?_, ?_, fun i hi k hk => ?_⟩, fun c hc => ?_, hh.of h (fun p h1 h2 => nt p (by omega) (by omega))⟩
  · have hg2 : (if g = f then S else pF a g) r = true := hg
    by_cases e : g = f
    · rw [if_pos e] at hg2; exact hS r hg2
    · rw [if_neg e] at hg2; exact w4 g r hg2
  · rw [(h.2.2 _ (nt _ (by omega) (by omega))).1]; exact c1
  · rw [(h.2.2 _ (nt _ (by omega) (by omega))).2]; exact c2 r hr c hc
  · show ss σ' (3 + 4 + g) = if g = f then S else pF a g
    by_cases e : g = f
    · rw [if_pos e, e]; exact hs2
    · rw [if_neg e, (h.2.2 _ (nt _ (by omega) (by omega))).1]; exact c3 g hg
  · rw [(h.2.2 _ (nt _ (by omega) (by omega))).1]; exact c4 p hp
  · rw [(h.2.2 _ (nt _ (by omega) (by omega))).2]; exact c5
  · have hi : i < pM a := hi
    rw [(h.2.2 _ (nt _ (by omega) (by omega))).2]; exact c6 i hi k hk
  · exact (hkc c hc).of2 h (fun p hp hx => by unfold perm at hp; unfold sc tmp at hx; omega)
theorem BI.P {σ : St} {a : PS} {n : Nat} {hs : Nat → PS} (hb : BI σ a n hs) {σ' : St} {f : Nat} {S : Nat → Bool} (hf : f < 4) (hS : ∀ r, S r = true → r < 120) (h : OF (fun p => p = 16 + f ∨ sc p) σ σ') (hs2 : ss σ' (16 + f) = S) : BI σ' (wP a f S) n hs := by
  obtain ⟨hly, hw, hwf, ⟨c1, c2, c3, c4, c5, c6⟩, hkc, hh⟩ := hb
  obtain ⟨w1, w2, w3, w4, w5, w6, w7⟩ := hwf
  have nt : ∀ p, p ≤ 218 → p ≠ 16 + f → ¬ (p = 16 + f ∨ sc p) := fun p h1 h2 hx => by
    unfold sc tmp at hx
    omega
  refine ⟨hly.of h, h.2.1, ⟨w1, w2, w3, w4, fun g r hr => ?_, w6, w7⟩, ⟨?_, fun r hr c hc => ?_, fun g hg => ?_, fun p hp => ?_, ?_, fun i hi k hk => ?_⟩, fun c hc => ?_, hh.of h (fun p h1 h2 => nt p (by omega) (by omega))⟩
  · show (if g = f then S else pP a g) r = false
    by_cases e : g = f
    · rw [if_pos e]
      cases h9 : S r
      · rfl
      · have := hS r h9
        omega
    · rw [if_neg e]; exact w5 g r hr
  · rw [(h.2.2 _ (nt _ (by omega) (by omega))).1]; exact c1
  · rw [(h.2.2 _ (nt _ (by omega) (by omega))).2]; exact c2 r hr c hc
  · rw [(h.2.2 _ (nt _ (by omega) (by omega))).1]; exact c3 g hg
  · show ss σ' (3 + 13 + p) = if p = f then S else pP a p
    by_cases e : p = f
    · rw [if_pos e, e]; exact hs2
    · rw [if_neg e, (h.2.2 _ (nt _ (by omega) (by omega))).1]; exact c4 p hp
  · rw [(h.2.2 _ (nt _ (by omega) (by omega))).2]; exact c5
  · have hi : i < pM a := hi
    rw [(h.2.2 _ (nt _ (by omega) (by omega))).2]; exact c6 i hi k hk
  · exact (hkc c hc).of2 h (fun p hp hx => by unfold perm at hp; unfold sc tmp at hx; omega)
theorem F_le {a : PS} (h : WF a) {f r : Nat} (h1 : pF a f r = true) : r < 120 := by
  by_cases hr : r < 120
  · exact hr
  · have h2 := h.2.2.2.1 f r h1
    rw [h.1 r (by omega)] at h2
    cases h2
theorem V_T {a : PS} (h : WF a) {r c : Nat} (h1 : isv (pV a r c) = true) : pT a r = true := by
  cases h2 : pT a r
  · rw [h.2.1 r c h2] at h1
    cases h1
  · rfl
theorem T_le {a : PS} (h : WF a) {r : Nat} (h1 : pT a r = true) : r < 120 := by
  by_cases hr : r < 120
  · exact hr
  · rw [h.1 r (by omega)] at h1
    cases h1
theorem and_lt {S : Nat → Bool} (h : ∀ r, S r = true → r < 120) : (fun k => decide (k < 120) && S k) = S := by
  funext k
  cases h1 : S k
  · exact Bool.and_false _
  · rw [decide_eq_true (h k h1)]
    rfl
