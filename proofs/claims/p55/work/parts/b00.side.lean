/-! THE LAW'S SIDE: what stays where the law works -/
theorem isRA18 : isRA 18 = true := rfl
theorem isRA19 : isRA 19 = true := rfl
theorem AW.kl {σ σ' : St} (h : AW σ) (h1 : gK σ' = gK σ) (h2 : gL σ' = gL σ) : AW σ' := by
  intro p hp n hn
  have := h p (by rw [← h1]; exact hp) n hn
  unfold ss at this ⊢
  rw [h2]
  exact this
/-- the places of the class are as they were -/
def SCm (σ σ' : St) : Prop := AW σ' ∧ ∀ p, p < 838 → gK σ' p = gK σ p ∧ gN σ' p = gN σ p ∧ gI σ' p = gI σ p ∧ gR σ' p = gR σ p ∧ (p ≠ 0 → gL σ' p = gL σ p)
theorem SCm.tr {σ σ' σ'' : St} (h : SCm σ σ') (h2 : SCm σ' σ'') : SCm σ σ'' := ⟨h2.1, fun p hp => by
  obtain ⟨a1, a2, a3, a4, a5⟩ := h.2 p hp
  obtain ⟨b1, b2, b3, b4, b5⟩ := h2.2 p hp
  exact ⟨b1.trans a1, b2.trans a2, b3.trans a3, b4.trans a4, fun h0 => (b5 h0).trans (a5 h0)⟩⟩
theorem SCm.nt {σ σ' : St} (h : SCm σ σ') : NT (fun _ => False) ((σ.1, σ.2.1, σ.2.2.1, σ.2.2.2.1, σ.2.2.2.2.1, σ.2.2.2.2.2.1, 836, 0, 0) : St) ((σ.1, σ.2.1, σ.2.2.1, σ'.2.2.2.1, σ'.2.2.2.2.1, σ'.2.2.2.2.2.1, 836, 0, 0) : St) 0 0 0 := ⟨rfl, Nat.le_refl _, Nat.le_refl _, fun p hp => ⟨(h.2 p hp).1, (h.2 p hp).2.1, rfl, rfl, fun _ => (h.2 p hp).2.2.2.1⟩, fun h => h⟩
theorem SCm.of {σ σ' : St} (h : SCm σ σ') : OF (fun p => 838 ≤ p ∨ p = 0) ((σ.1, σ.2.1, σ'.2.2) : St) σ' := ⟨⟨σ'.1, σ'.2.1, rfl⟩, h.1, fun p hp => by
  obtain ⟨a1, a2, a3, a4, a5⟩ := h.2 p (by omega)
  refine ⟨?_, fun k => ?_⟩
  · show ss σ' p = ss σ p
    funext n
    unfold ss
    rw [a5 (by omega)]
  · show gI σ' p k = gI σ p k
    rw [a3]⟩
theorem LY.sm {σ σ' : St} (h : SCm σ σ') (hl : LY σ) : LY σ' := by
  have N := h.nt
  obtain ⟨-, h⟩ := h
  obtain ⟨tk, t0, t1, t2, t3, t4, t5, t6, t7, t8, t9, t10, kcs, ncs, rcs, kdr, ksa, nsa, ks1, ks2, ks3, ks4, ks5, hst, hhi, hco⟩ := hl
  refine ⟨?_, ?_, ?_, ?_, ?_, ?_, ?_, ?_, ?_, ?_, ?_, ?_, ?_, ?_, fun i hi => ?_, ?_, ?_, ?_, ?_, ?_, ?_, ?_, ?_, ?_, ?_, fun i hi => ?_⟩
  · rw [(h 2 (by omega)).1]; exact tk
  · rw [(h 2 (by omega)).2.2.2.1]; exact t0
  · rw [(h 2 (by omega)).2.2.2.1]; exact t1
  · rw [(h 2 (by omega)).2.2.2.1]; exact t2
  · rw [(h 2 (by omega)).2.2.2.1]; exact t3
  · rw [(h 2 (by omega)).2.2.2.1]; exact t4
  · rw [(h 2 (by omega)).2.2.2.1]; exact t5
  · rw [(h 2 (by omega)).2.2.2.1]; exact t6
  · rw [(h 2 (by omega)).2.2.2.1]; exact t7
  · rw [(h 2 (by omega)).2.2.2.1]; exact t8
  · rw [(h 2 (by omega)).2.2.2.1]; exact t9
  · rw [(h 2 (by omega)).2.2.2.1]; exact t10
  · rw [(h 203 (by omega)).1]; exact kcs
  · rw [(h 203 (by omega)).2.1]; exact ncs
  · rw [(h 203 (by omega)).2.2.2.1]; exact rcs i hi
  · rw [(h 219 (by omega)).1]; exact kdr
  · rw [(h 220 (by omega)).1]; exact ksa
  · rw [(h 220 (by omega)).2.1]; exact nsa
  · rw [(h 221 (by omega)).1]; exact ks1
  · rw [(h 222 (by omega)).1]; exact ks2
  · rw [(h 223 (by omega)).1]; exact ks3
  · rw [(h 224 (by omega)).1]; exact ks4
  · rw [(h 225 (by omega)).1]; exact ks5
  · have q := StL.nt (s := 3) N (fun p h1 h2 => ⟨show p < 838 by omega, id⟩) hst
    exact q
  · have q := HiL.nt (s := 25) N (fun p h1 h2 => ⟨show p < 838 by omega, id⟩) hhi
    exact q
  · have q := CoL.nt (c := 226 + 153 * i) N (fun p h1 h2 => ⟨show p < 838 by omega, id⟩) (hco i hi)
    exact q
theorem GrL.sm {σ σ' : St} (h : SCm σ σ') (hl : GrL σ) : GrL σ' := by
  have q := GrL.nt h.nt (fun p h1 h2 => ⟨show p < 838 by omega, id⟩) hl
  exact q
theorem BI.sm {σ σ' : St} {a : PS} {n : Nat} {hs : Nat → PS} (h : SCm σ σ') (hb : BI σ a n hs) : BI σ' a n hs := by
  obtain ⟨h1, h2, h3, h4, h5, h6⟩ := hb
  exact ⟨h1.sm h, h.1, h3, CS.of h.of (fun p hp => by unfold inS at hp; omega) h4 h3.2.2.2.2.2.1, KC.of h.of (fun p _ _ _ => by omega) h5, HS.of h.of (fun p _ _ => by omega) h6⟩
theorem GC.sm {σ σ' : St} {n : Nat} {g : Nat → Nat → Int} (h : SCm σ σ') (hg : GC σ n g) : GC σ' n g := by
  unfold GC
  rw [(h.2 204 (by omega)).2.2.1, (h.2 205 (by omega)).2.2.1]
  exact hg
theorem LAo.sm {σ σ' : St} (h : SCm σ σ') (hg : LAo σ) : LAo σ' := by
  unfold LAo
  rw [(h.2 1 (by omega)).2.1, (h.2 1 (by omega)).2.2.1]
  exact hg
/-- the law's own table -/
def TBL (σ : St) : Prop := gK σ 838 = 9 ∧ gR σ 838 0 = some 839 ∧ gR σ 838 1 = some 840 ∧ gK σ 839 = 11 ∧ gN σ 839 = 120 ∧ gK σ 840 = 18 ∧ gN σ 840 = 120 ∧ (∀ r, r < 120 → gR σ 840 r = some (841 + r)) ∧ (∀ r, r < 120 → gK σ (841 + r) = 10) ∧ (∀ r, r < 120 → gN σ (841 + r) = 4)
/-- .. holds what the store holds -/
def TBV (σ : St) (a : PS) : Prop := (∀ r, r < 120 → gI σ 839 r = iv (bz (pT a r))) ∧ (∀ r, r < 120 → pT a r = true → ∀ c, c < 4 → gI σ (841 + r) c = iv (pV a r c)) ∧ gI σ 838 2 = iv (fb_ct (pT a) 120 : Nat)
/-- below b nothing of the law's has changed, at most k rows were made -/
def LF (b k : Nat) (σ σ' : St) : Prop := gx σ ≤ gx σ' ∧ gc σ' ≤ gc σ + k ∧ gs σ' ≤ gs σ + 120 * k ∧ ∀ p, 838 ≤ p → p < b → gK σ' p = gK σ p ∧ gN σ' p = gN σ p ∧ gI σ' p = gI σ p ∧ gR σ' p = gR σ p
theorem LF.rf {b : Nat} {σ : St} : LF b 0 σ σ := ⟨Nat.le_refl _, Nat.le_refl _, Nat.le_refl _, fun _ _ _ => ⟨rfl, rfl, rfl, rfl⟩⟩
theorem LF.tr {b k j : Nat} {σ σ' σ'' : St} (h : LF b k σ σ') (g : LF b j σ' σ'') : LF b (k + j) σ σ'' := ⟨Nat.le_trans h.1 g.1, by have := h.2.1; have := g.2.1; omega, by have := h.2.2.1; have := g.2.2.1; omega, fun p h1 h2 => by
  obtain ⟨a1, a2, a3, a4⟩ := h.2.2.2 p h1 h2
  obtain ⟨b1, b2, b3, b4⟩ := g.2.2.2 p h1 h2
  exact ⟨b1.trans a1, b2.trans a2, b3.trans a3, b4.trans a4⟩⟩
theorem LF.wk {b b' k k' : Nat} {σ σ' : St} (h : LF b k σ σ') (hb : b' ≤ b) (hk : k ≤ k') : LF b' k' σ σ' := ⟨h.1, by have := h.2.1; omega, by have := h.2.2.1; omega, fun p h1 h2 => h.2.2.2 p h1 (by omega)⟩
theorem LF.of {T : Nat → Prop} {b : Nat} {σ σ' : St} (h : OF T σ σ') (ht : ∀ p, 838 ≤ p → ¬ T p) : LF b 0 σ σ' := ⟨by rw [h.x]; exact Nat.le_refl _, by rw [h.c]; exact Nat.le_refl _, by rw [h.s]; omega, fun p h1 _ => ⟨by rw [h.K], by rw [h.N], funext (fun k => (h.2.2 p (ht p h1)).2 k), by rw [h.R]⟩⟩
theorem LF.owf {b : Nat} {σ σ' : St} (h : OF ow σ σ') : LF b 0 σ σ' := LF.of h (fun p h1 h2 => by unfold ow at h2; omega)
theorem LF.scf {b : Nat} {σ σ' : St} (h : OF sc σ σ') : LF b 0 σ σ' := LF.of h (fun p h1 h2 => by unfold sc tmp at h2; omega)
theorem LF.I {b p k : Nat} {x : Int32} {σ : St} (hp : b ≤ p) : LF b 0 σ (setI σ p k x) := ⟨Nat.le_refl _, Nat.le_refl _, Nat.le_refl _, fun q _ h2 => ⟨rfl, rfl, funext (fun j => by rw [gI_I, if_neg (by omega)]), rfl⟩⟩
theorem LF.R {b p k : Nat} {x : Option Nat} {σ : St} (hp : b ≤ p) : LF b 0 σ (setR σ p k x) := ⟨Nat.le_refl _, Nat.le_refl _, Nat.le_refl _, fun q _ h2 => ⟨rfl, rfl, rfl, funext (fun j => by rw [gR_R, if_neg (by omega)])⟩⟩
theorem LF.alf {b k n : Nat} {σ : St} (hb : b ≤ gx σ + 2) (hn : n ≤ 120) : LF b 1 σ (al σ k n) := ⟨Nat.le_succ _, Nat.le_refl _, by show gs σ + n ≤ _; omega, fun q _ h2 => ⟨al_Kn (by omega), al_Nn (by omega), funext (fun j => al_In (by omega)), funext (fun j => al_Rn (by omega))⟩⟩
theorem SCm.I {σ : St} {p k : Nat} {x : Int32} (hw : AW σ) (hp : 838 ≤ p) : SCm σ (setI σ p k x) := ⟨hw.kl rfl rfl, fun q hq => ⟨rfl, rfl, funext (fun j => by rw [gI_I, if_neg (by omega)]), rfl, fun _ => rfl⟩⟩
theorem SCm.R {σ : St} {p k : Nat} {x : Option Nat} (hw : AW σ) (hp : 838 ≤ p) : SCm σ (setR σ p k x) := ⟨hw.kl rfl rfl, fun q hq => ⟨rfl, rfl, rfl, funext (fun j => by rw [gR_R, if_neg (by omega)]), fun _ => rfl⟩⟩
theorem SCm.alf {σ : St} {k n : Nat} (hw : AW σ) (hx : 836 ≤ gx σ) : SCm σ (al σ k n) := ⟨fun p hp m hm => by
  by_cases e : p = gx σ + 2
  · unfold ss
    rw [al_L, al_L, if_pos e, if_pos e]
    have h0 : ∀ i, bw 0 i = false := fun i => by
      unfold bw
      simp
    rw [h0, h0]
    split <;> rfl
  · rw [al_Kn e] at hp
    have := hw p hp m hm
    unfold ss at this ⊢
    rw [al_L, al_L, if_neg e, if_neg e]
    exact this, fun q hq => ⟨al_Kn (by omega), al_Nn (by omega), funext (fun j => al_In (by omega)), funext (fun j => al_Rn (by omega)), fun _ => funext (fun j => by rw [al_L, if_neg (by omega)])⟩⟩
/-- the draws' number has moved -/
def DR (σ σ' : St) : Prop := (∃ L, σ' = (σ.1, L, σ.2.2)) ∧ ∀ p, p ≠ 0 → gL σ' p = gL σ p
theorem DR.rf {σ : St} : DR σ σ := ⟨⟨σ.2.1, rfl⟩, fun _ _ => rfl⟩
theorem DR.tr {σ σ' σ'' : St} (h : DR σ σ') (g : DR σ' σ'') : DR σ σ'' := by
  obtain ⟨⟨L, rfl⟩, h2⟩ := h
  obtain ⟨⟨M, rfl⟩, g2⟩ := g
  exact ⟨⟨M, rfl⟩, fun p hp => (g2 p hp).trans (h2 p hp)⟩
theorem DR.L {σ : St} {k : Nat} {x : Int64} : DR σ (setL σ 0 k x) := ⟨⟨_, rfl⟩, fun p hp => funext (fun j => by rw [gL_L, if_neg (fun h => hp h.1)])⟩
theorem LF.dr {b : Nat} {σ σ' : St} (h : DR σ σ') : LF b 0 σ σ' := by
  obtain ⟨⟨L, rfl⟩, h2⟩ := h
  exact ⟨Nat.le_refl _, Nat.le_refl _, Nat.le_refl _, fun _ _ _ => ⟨rfl, rfl, rfl, rfl⟩⟩
theorem SCm.dr {σ σ' : St} (hw : AW σ) (h0 : gK σ 0 ≠ 5) (h : DR σ σ') : SCm σ σ' := by
  obtain ⟨⟨L, rfl⟩, h2⟩ := h
  refine ⟨fun p hp n hn => ?_, fun p _ => ⟨rfl, rfl, rfl, rfl, fun hp => h2 p hp⟩⟩
  have e : p ≠ 0 := fun e => h0 (by rw [← e]; exact hp)
  have := hw p hp n hn
  unfold ss at this ⊢
  rw [h2 p e]
  exact this
/-- the whole world of the law: store, table, draws -/
def LWd (σ : St) (a : PS) (n : Nat) (hs : Nat → PS) : Prop := BI σ a n hs ∧ gK σ 0 = 8 ∧ LAo σ ∧ GrL σ ∧ 959 ≤ gx σ ∧ TBL σ ∧ TBV σ a
theorem TBL.lf {b k : Nat} {σ σ' : St} (h : TBL σ) (g : LF b k σ σ') (hb : 961 ≤ b) : TBL σ' := by
  obtain ⟨h1, h2, h3, h4, h5, h6, h7, h8, h9, h10⟩ := h
  have g := g.2.2.2
  refine ⟨?_, ?_, ?_, ?_, ?_, ?_, ?_, fun r hr => ?_, fun r hr => ?_, fun r hr => ?_⟩
  · rw [(g 838 (by omega) (by omega)).1]; exact h1
  · rw [(g 838 (by omega) (by omega)).2.2.2]; exact h2
  · rw [(g 838 (by omega) (by omega)).2.2.2]; exact h3
  · rw [(g 839 (by omega) (by omega)).1]; exact h4
  · rw [(g 839 (by omega) (by omega)).2.1]; exact h5
  · rw [(g 840 (by omega) (by omega)).1]; exact h6
  · rw [(g 840 (by omega) (by omega)).2.1]; exact h7
  · rw [(g 840 (by omega) (by omega)).2.2.2]; exact h8 r hr
  · rw [(g _ (by omega) (by omega)).1]; exact h9 r hr
  · rw [(g _ (by omega) (by omega)).2.1]; exact h10 r hr
theorem TBV.lf {b k : Nat} {σ σ' : St} {a : PS} (h : TBV σ a) (g : LF b k σ σ') (hb : 961 ≤ b) : TBV σ' a := by
  obtain ⟨h1, h2, h3⟩ := h
  have g := g.2.2.2
  refine ⟨fun r hr => ?_, fun r hr ht c hc => ?_, ?_⟩
  · rw [(g 839 (by omega) (by omega)).2.2.1]; exact h1 r hr
  · rw [(g _ (by omega) (by omega)).2.2.1]; exact h2 r hr ht c hc
  · rw [(g 838 (by omega) (by omega)).2.2.1]; exact h3
theorem TBV.pv {σ : St} {a a' : PS} (h : TBV σ a) (h1 : pT a' = pT a) (h2 : pV a' = pV a) : TBV σ a' := by
  unfold TBV
  rw [h1, h2]
  exact h
theorem LWd.sm {b k : Nat} {σ σ' : St} {a : PS} {n : Nat} {hs : Nat → PS} (h : LWd σ a n hs) (s : SCm σ σ') (g : LF b k σ σ') (hb : 961 ≤ b) : LWd σ' a n hs :=
  ⟨h.1.sm s, by rw [(s.2 0 (by omega)).1]; exact h.2.1, h.2.2.1.sm s, h.2.2.2.1.sm s, Nat.le_trans h.2.2.2.2.1 g.1, h.2.2.2.2.2.1.lf g hb, h.2.2.2.2.2.2.lf g hb⟩
theorem LWd.I {σ : St} {a : PS} {n : Nat} {hs : Nat → PS} {p k : Nat} {x : Int32} (h : LWd σ a n hs) (hp : 961 ≤ p) : LWd (setI σ p k x) a n hs := h.sm (SCm.I h.1.2.1 (by omega)) (LF.I (b := 961) hp) (Nat.le_refl _)
theorem LWd.R {σ : St} {a : PS} {n : Nat} {hs : Nat → PS} {p k : Nat} {x : Option Nat} (h : LWd σ a n hs) (hp : 961 ≤ p) : LWd (setR σ p k x) a n hs := h.sm (SCm.R h.1.2.1 (by omega)) (LF.R (b := 961) hp) (Nat.le_refl _)
theorem LWd.alf {σ : St} {a : PS} {n : Nat} {hs : Nat → PS} {k m : Nat} (h : LWd σ a n hs) (hm : m ≤ 120) : LWd (al σ k m) a n hs := by
  have hx := h.2.2.2.2.1
  exact h.sm (SCm.alf h.1.2.1 (by omega)) (LF.alf (b := 961) (by omega) hm) (Nat.le_refl _)
theorem LWd.dr {σ σ' : St} {a : PS} {n : Nat} {hs : Nat → PS} (h : LWd σ a n hs) (d : DR σ σ') : LWd σ' a n hs := h.sm (SCm.dr h.1.2.1 (by rw [h.2.1]; decide) d) (LF.dr (b := 961) d) (Nat.le_refl _)
/-- .. behind a call of the store's that changes no cell -/
theorem LWd.of {T : Nat → Prop} {σ σ' : St} {a a' : PS} {n n' : Nat} {hs hs' : Nat → PS} (h : LWd σ a n hs) (g : OF T σ σ') (ht : ∀ p, T p → 2 ≤ p ∧ p < 838) (hb : BI σ' a' n' hs') (h1 : pT a' = pT a) (h2 : pV a' = pV a) : LWd σ' a' n' hs' := by
  obtain ⟨-, l2, l3, l4, l5, l6, l7⟩ := h
  have f : LF 961 0 σ σ' := LF.of g (fun p hp h9 => by have := ht p h9; omega)
  refine ⟨hb, by rw [g.K]; exact l2, ?_, ?_, Nat.le_trans l5 f.1, l6.lf f (Nat.le_refl _), (l7.lf f (Nat.le_refl _)).pv h1 h2⟩
  · have e : gI σ' 1 = gI σ 1 := funext (fun k => (g.2.2 1 (fun h9 => by have := ht 1 h9; omega)).2 k)
    unfold LAo
    rw [g.N, e]
    exact l3
  · unfold GrL
    rw [g.K, g.N, g.R]
    exact l4
theorem LWd.owf {σ σ' : St} {a a' : PS} {n n' : Nat} {hs hs' : Nat → PS} (h : LWd σ a n hs) (g : OF ow σ σ') (hb : BI σ' a' n' hs') (h1 : pT a' = pT a) (h2 : pV a' = pV a) : LWd σ' a' n' hs' := h.of g (fun p hp => by unfold ow at hp; omega) hb h1 h2
theorem LWd.scf {σ σ' : St} {a : PS} {n : Nat} {hs : Nat → PS} (h : LWd σ a n hs) (g : OF sc σ σ') : LWd σ' a n hs := h.of g (fun p hp => by unfold sc tmp at hp; omega) (h.1.scr g) rfl rfl
/-- a row of the law's own that holds a set -/
def SA (σ : St) (p : Nat) (S : Nat → Bool) : Prop := gK σ p = 11 ∧ gN σ p = 120 ∧ 961 ≤ p ∧ p < gx σ + 2 ∧ ∀ r, r < 120 → gI σ p r = iv (bz (S r))
theorem SA.lf {b k : Nat} {σ σ' : St} {p : Nat} {S : Nat → Bool} (h : SA σ p S) (g : LF b k σ σ') (hb : p < b) : SA σ' p S := by
  obtain ⟨h1, h2, h3, h4, h5⟩ := h
  obtain ⟨a1, a2, a3, a4⟩ := g.2.2.2 p (by omega) hb
  exact ⟨a1.trans h1, a2.trans h2, h3, by have := g.1; omega, fun r hr => by rw [a3]; exact h5 r hr⟩
theorem SA.cong {σ : St} {p : Nat} {S S' : Nat → Bool} (h : SA σ p S) (e : ∀ r, r < 120 → S' r = S r) : SA σ p S' := ⟨h.1, h.2.1, h.2.2.1, h.2.2.2.1, fun r hr => by rw [e r hr]; exact h.2.2.2.2 r hr⟩
