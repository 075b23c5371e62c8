/-! SIDE BY SIDE: what keeps the class, what keeps the Model -/
/-- the places of the class are as they were -/
def SCm (σ σ' : St) : Prop := AW σ' ∧ ∀ p, p < 838 → gK σ' p = gK σ p ∧ gN σ' p = gN σ p ∧ gI σ' p = gI σ p ∧ gR σ' p = gR σ p ∧ gL σ' p = gL σ p
theorem SCm.tr {σ σ' σ'' : St} (h : SCm σ σ') (h2 : SCm σ' σ'') : SCm σ σ'' := ⟨h2.1, fun p hp => by
  obtain ⟨a1, a2, a3, a4, a5⟩ := h.2 p hp
  obtain ⟨b1, b2, b3, b4, b5⟩ := h2.2 p hp
  exact ⟨b1.trans a1, b2.trans a2, b3.trans a3, b4.trans a4, b5.trans a5⟩⟩
theorem SCm.nt {σ σ' : St} (h : SCm σ σ') : NT (fun _ => False) ((σ.1, σ.2.1, σ.2.2.1, σ.2.2.2.1, σ.2.2.2.2.1, σ.2.2.2.2.2.1, 836, 0, 0) : St) ((σ.1, σ.2.1, σ.2.2.1, σ'.2.2.2.1, σ'.2.2.2.2.1, σ'.2.2.2.2.2.1, 836, 0, 0) : St) 0 0 0 := ⟨rfl, Nat.le_refl _, Nat.le_refl _, fun p hp => ⟨(h.2 p hp).1, (h.2 p hp).2.1, rfl, rfl, fun _ => (h.2 p hp).2.2.2.1⟩, fun h => h⟩
theorem SCm.of {σ σ' : St} (h : SCm σ σ') : OF (fun p => 838 ≤ p) ((σ.1, σ.2.1, σ'.2.2) : St) σ' := ⟨⟨σ'.1, σ'.2.1, rfl⟩, h.1, fun p hp => by
  obtain ⟨a1, a2, a3, a4, a5⟩ := h.2 p (by omega)
  refine ⟨?_, fun k => ?_⟩
  · show ss σ' p = ss σ p
    funext n
    unfold ss
    rw [a5]
  · show gI σ' p k = gI σ p k
    rw [a3]⟩
theorem LY.sm {σ σ' : St} (h : SCm σ σ') (hl : LY σ) : LY σ' := by
  have N := h.nt
  obtain ⟨-, h⟩ := h
  obtain ⟨tk, t0, t1, t2, t3, t4, t5, t6, t7, t8, t9, t10, kcs, ncs, rcs, kdr, ksa, nsa, ks1, ks2, ks3, ks4, ks5, hst, hhi, hco⟩ := hl
  refine ⟨?_, ?_, ?_, ?_, ?_, ?_, ?_, ?_, ?_, ?_, ?_, ?_, ?_, ?_, fun i hi => ?_, ?_, ?_, ?_, ?_, ?_, ?_, ?_, ?_, ?_, ?_, fun i hi => ?_⟩
  · rw [(h 2 (by omega)).1]; exact tk
  · rw [(h 2 (by omega)).2.2.2.1]; exact t0
  · rw [(h 2 (by omega)).2.2.2.1]; exact t1
  · rw [(h 2 (by omega)).2.2.2.1]; exact t2
  · rw [(h 2 (by omega)).2.2.2.1]; exact t3
  · rw [(h 2 (by omega)).2.2.2.1]; exact t4
  · rw [(h 2 (by omega)).2.2.2.1]; exact t5
  · rw [(h 2 (by omega)).2.2.2.1]; exact t6
  · rw [(h 2 (by omega)).2.2.2.1]; exact t7
  · rw [(h 2 (by omega)).2.2.2.1]; exact t8
  · rw [(h 2 (by omega)).2.2.2.1]; exact t9
  · rw [(h 2 (by omega)).2.2.2.1]; exact t10
  · rw [(h 203 (by omega)).1]; exact kcs
  · rw [(h 203 (by omega)).2.1]; exact ncs
  · rw [(h 203 (by omega)).2.2.2.1]; exact rcs i hi
  · rw [(h 219 (by omega)).1]; exact kdr
  · rw [(h 220 (by omega)).1]; exact ksa
  · rw [(h 220 (by omega)).2.1]; exact nsa
  · rw [(h 221 (by omega)).1]; exact ks1
  · rw [(h 222 (by omega)).1]; exact ks2
  · rw [(h 223 (by omega)).1]; exact ks3
  · rw [(h 224 (by omega)).1]; exact ks4
  · rw [(h 225 (by omega)).1]; exact ks5
  · have q := StL.nt (s := 3) N (fun p h1 h2 => ⟨show p < 838 by omega, id⟩) hst
    exact q
  · have q := HiL.nt (s := 25) N (fun p h1 h2 => ⟨show p < 838 by omega, id⟩) hhi
    exact q
  · have q := CoL.nt (c := 226 + 153 * i) N (fun p h1 h2 => ⟨show p < 838 by omega, id⟩) (hco i hi)
    exact q
theorem GrL.sm {σ σ' : St} (h : SCm σ σ') (hl : GrL σ) : GrL σ' := by
  have q := GrL.nt h.nt (fun p h1 h2 => ⟨show p < 838 by omega, id⟩) hl
  exact q
theorem BI.sm {σ σ' : St} {a : PS} {n : Nat} {hs : Nat → PS} (h : SCm σ σ') (hb : BI σ a n hs) : BI σ' a n hs := by
  obtain ⟨h1, h2, h3, h4, h5, h6⟩ := hb
  exact ⟨h1.sm h, h.1, h3, CS.of h.of (fun p hp => by unfold inS at hp; omega) h4 h3.2.2.2.2.2.1, KC.of h.of (fun p _ _ _ => by omega) h5, HS.of h.of (fun p _ _ => by omega) h6⟩
theorem GC.sm {σ σ' : St} {n : Nat} {g : Nat → Nat → Int} (h : SCm σ σ') (hg : GC σ n g) : GC σ' n g := by
  unfold GC
  rw [(h.2 204 (by omega)).2.2.1, (h.2 205 (by omega)).2.2.1]
  exact hg
theorem LAo.sm {σ σ' : St} (h : SCm σ σ') (hg : LAo σ) : LAo σ' := by
  unfold LAo
  rw [(h.2 1 (by omega)).2.1, (h.2 1 (by omega)).2.2.1]
  exact hg
/-- the places of the Model are as they were -/
def SMm (σ σ' : St) : Prop := ∀ p, 838 ≤ p → p ≤ 1332 → gK σ' p = gK σ p ∧ gN σ' p = gN σ p ∧ gI σ' p = gI σ p ∧ gR σ' p = gR σ p
theorem ML.sm {σ σ' : St} (h : SMm σ σ') (hl : ML σ) : ML σ' := by
  obtain ⟨mk, mr1, mr2, mr5, mr6, mks, mns, mka, mna, mkm, mnm, mkg, mng, mkr, mkq⟩ := hl
  refine ⟨?_, ?_, ?_, ?_, ?_, ?_, ?_, ?_, ?_, ?_, ?_, ?_, ?_, fun i hi => ⟨?_, ?_⟩, fun i hi => ⟨?_, ?_⟩⟩
  · rw [(h 838 (by omega) (by omega)).1]; exact mk
  · rw [(h 838 (by omega) (by omega)).2.2.2]; exact mr1
  · rw [(h 838 (by omega) (by omega)).2.2.2]; exact mr2
  · rw [(h 838 (by omega) (by omega)).2.2.2]; exact mr5
  · rw [(h 838 (by omega) (by omega)).2.2.2]; exact mr6
  · rw [(h 839 (by omega) (by omega)).1]; exact mks
  · rw [(h 839 (by omega) (by omega)).2.1]; exact mns
  · rw [(h 840 (by omega) (by omega)).1]; exact mka
  · rw [(h 840 (by omega) (by omega)).2.1]; exact mna
  · rw [(h 849 (by omega) (by omega)).1]; exact mkm
  · rw [(h 849 (by omega) (by omega)).2.1]; exact mnm
  · rw [(h 850 (by omega) (by omega)).1]; exact mkg
  · rw [(h 850 (by omega) (by omega)).2.1]; exact mng
  · rw [(h _ (by omega) (by omega)).1]; exact (mkr i hi).1
  · rw [(h _ (by omega) (by omega)).2.1]; exact (mkr i hi).2
  · rw [(h _ (by omega) (by omega)).1]; exact (mkq i hi).1
  · rw [(h _ (by omega) (by omega)).2.1]; exact (mkq i hi).2
theorem MI.sm {σ σ' : St} {a : PS} {n : Nat} {hs : Nat → PS} (h : SMm σ σ') (hi : MI σ a n hs) : MI σ' a n hs := by
  obtain ⟨h1, h2, h3, h4, pa, h5, h6, h7, h8⟩ := hi
  refine ⟨h1.sm h, h2.cong (h 839 (by omega) (by omega)).2.2.1, h3, ?_, pa, h5, h6, fun i hi => ?_, fun i hi => ⟨(h8 i hi).1.cong (h _ (by omega) (by have := h5 i (by omega); omega)).2.2.1, (h8 i hi).2⟩⟩
  · rw [(h 838 (by omega) (by omega)).2.2.1]; exact h4
  · rw [(h 840 (by omega) (by omega)).2.2.2]; exact h7 i hi
theorem MG.sm {σ σ' : St} {k : Nat} {g : Nat → Nat → Int} (h : SMm σ σ') (hg : MG σ k g) : MG σ' k g := by
  obtain ⟨p0, p1, pg, p2, p3, p4, p5⟩ := hg
  refine ⟨p0, ?_, pg, p2, p3, fun i hi => ?_, fun i hi c hc => ?_⟩
  · rw [(h 838 (by omega) (by omega)).2.2.1]; exact p1
  · rw [(h 850 (by omega) (by omega)).2.2.2]; exact p4 i hi
  · rw [(h _ (by omega) (by have := p2 i (by omega); omega)).2.2.1]; exact p5 i hi c hc
theorem AW.kl {σ σ' : St} (h : AW σ) (h1 : gK σ' = gK σ) (h2 : gL σ' = gL σ) : AW σ' := by
  intro p hp n hn
  have := h p (by rw [← h1]; exact hp) n hn
  unfold ss at this ⊢
  rw [h2]
  exact this
theorem SCm.mo {σ σ' : St} (hw : AW σ) (h : MO σ σ') : SCm σ σ' := by
  obtain ⟨⟨I, R, e⟩, h2, h3, h4⟩ := h
  subst e
  exact ⟨hw.kl rfl rfl, fun p hp => ⟨rfl, rfl, h2 p (by omega), h3 p (by omega), rfl⟩⟩
theorem SCm.mb {σ σ' : St} (hw : AW σ) (h : MB σ σ') : SCm σ σ' := by
  obtain ⟨⟨I, R, e⟩, h2, h3, h4⟩ := h
  subst e
  exact ⟨hw.kl rfl rfl, fun p hp => ⟨rfl, rfl, h2 p (by omega) (by omega), h4 p (by omega), rfl⟩⟩
theorem SCm.si {σ : St} {p k : Nat} {x : Int32} (hw : AW σ) (hp : 838 ≤ p) : SCm σ (setI σ p k x) := ⟨hw.kl rfl rfl, fun q hq => ⟨rfl, rfl, funext (fun j => by rw [gI_I, if_neg (by omega)]), rfl, rfl⟩⟩
theorem SCm.mf {σ σ' : St} (hw : AW σ) (hx : 837 ≤ gx σ) (h : MFr σ σ') : SCm σ σ' := by
  obtain ⟨h1, h2, h3, h4, h5⟩ := h
  refine ⟨h4 hw, fun p hp => ?_⟩
  obtain ⟨a1, a2, a3, a4, a5⟩ := h5 p (by omega)
  exact ⟨a1, a2, (a5 (by omega)).1, (a5 (by omega)).2, a3⟩
theorem SMm.of {T : Nat → Prop} {σ σ' : St} (h : OF T σ σ') (ht : ∀ p, 838 ≤ p → ¬ T p) : SMm σ σ' := by
  obtain ⟨⟨I, L, e⟩, h2, h3⟩ := h
  subst e
  exact fun p hp _ => ⟨rfl, rfl, funext (fun k => (h3 p (ht p hp)).2 k), rfl⟩
/-- the script, and what the class's answers are put into -/
def LLo (L : Nat) (xs : Nat → Int32) (σ : St) : Prop := gK σ 0 = 20 ∧ gN σ 0 = L ∧ gI σ 0 = xs ∧ gK σ 1333 = 12 ∧ gN σ 1333 = 1 ∧ gK σ 1334 = 13 ∧ gN σ 1334 = 1 ∧ 1333 ≤ gx σ
theorem LLo.of {T : Nat → Prop} {L : Nat} {xs : Nat → Int32} {σ σ' : St} (h : OF T σ σ') (ht : ¬ T 0) (hl : LLo L xs σ) : LLo L xs σ' := by
  obtain ⟨⟨I, L, e⟩, h2, h3⟩ := h
  subst e
  obtain ⟨h4, h5, h6, h7⟩ := hl
  exact ⟨h4, h5, (funext (fun k => (h3 0 ht).2 k)).trans h6, h7⟩
theorem LLo.md {L : Nat} {xs : Nat → Int32} {σ σ' : St} (h : SCm σ σ') (h1 : gK σ' 1333 = gK σ 1333 ∧ gN σ' 1333 = gN σ 1333) (h2 : gK σ' 1334 = gK σ 1334 ∧ gN σ' 1334 = gN σ 1334) (hx : gx σ ≤ gx σ') (hl : LLo L xs σ) : LLo L xs σ' := by
  obtain ⟨a1, a2, a3, a4, a5, a6, a7, a8⟩ := hl
  obtain ⟨b1, b2, b3, -⟩ := h.2 0 (by omega)
  exact ⟨b1.trans a1, b2.trans a2, b3.trans a3, h1.1.trans a4, h1.2.trans a5, h2.1.trans a6, h2.2.trans a7, by omega⟩
def CW (σ : St) (a : PS) (n : Nat) (hs : Nat → PS) (k : Nat) (g : Nat → Nat → Int) : Prop := BI σ a n hs ∧ GrL σ ∧ GC σ k g ∧ LAo σ
def MW (σ : St) (a : PS) (n : Nat) (hs : Nat → PS) (k : Nat) (g : Nat → Nat → Int) : Prop := MI σ a n hs ∧ MG σ k g
theorem CW.sm {σ σ' : St} {a : PS} {n : Nat} {hs : Nat → PS} {k : Nat} {g : Nat → Nat → Int} (h : SCm σ σ') (hc : CW σ a n hs k g) : CW σ' a n hs k g := ⟨hc.1.sm h, hc.2.1.sm h, hc.2.2.1.sm h, hc.2.2.2.sm h⟩
theorem MW.sm {σ σ' : St} {a : PS} {n : Nat} {hs : Nat → PS} {k : Nat} {g : Nat → Nat → Int} (h : SMm σ σ') (hc : MW σ a n hs k g) : MW σ' a n hs k g := ⟨hc.1.sm h, hc.2.sm h⟩
/-- both hold the same, between two calls -/
def WI (L : Nat) (xs : Nat → Int32) (σ : St) : Prop := ∃ a n hs k g, CW σ a n hs k g ∧ MW σ a n hs k g ∧ LLo L xs σ
/-- after the class's call: d objects more -/
def WC (L : Nat) (xs : Nat → Int32) (σ : St) (d : Nat) (σ1 : St) (a' : PS) (n' : Nat) (hs' : Nat → PS) (k' : Nat) (g' : Nat → Nat → Int) (a : PS) (n : Nat) (hs : Nat → PS) (k : Nat) (g : Nat → Nat → Int) : Prop := CW σ1 a' n' hs' k' g' ∧ MW σ1 a n hs k g ∧ LLo L xs σ1 ∧ gc σ1 ≤ gc σ + d ∧ gs σ1 ≤ gs σ + 6 * d
def FIN (L : Nat) (xs : Nat → Int32) (σ σ2 : St) : Prop := WI L xs σ2 ∧ gc σ2 ≤ gc σ + 2 ∧ gs σ2 ≤ gs σ + 12
def PF (L : Nat) (xs : Nat → Int32) (σ : St) (e : Int) (x : Int64) (σ2 : St) : Prop := (0 ≤ e ∧ e ≤ 3) ∧ gI σ2 838 0 = iv e ∧ (e = 0 → gL σ2 1333 0 = x) ∧ FIN L xs σ σ2
/-- behind the class's call: the Model's call says the same -/
def PR (L : Nat) (xs : Nat → Int32) (σ : St) (y : Nat) (as : List Value) (o1 : Out) (σ1 : St) : Prop := (LLo L xs σ1 ∧ gK σ1 838 = 8) ∧ ∃ e : Int, o1 = .inl (some (.int (iv e))) ∧ Ex y as σ1 (fun o2 σ2 => ∃ w : Int, o2 = .inl (some (.int (iv w))) ∧ PF L xs σ e (iv w).toInt64 σ2)
/-- what a wrapper makes of the class's answer -/
def WL (cd : List (Nat × Int)) (Q : Out → St → Prop) (o : Out) (σ1 : St) : Prop := (gK σ1 1333 = 12 ∧ gN σ1 1333 = 1) ∧ match o with
  | .inl (some (.int v)) => Q (.inl (some (.int (iv 0)))) (setL σ1 1333 0 v.toInt64)
  | .inr e => ∃ c, (e, c) ∈ cd ∧ Q (.inl (some (.int (iv c)))) σ1
  | _ => False
def WLb (cd : List (Nat × Int)) (Q : Out → St → Prop) (o : Out) (σ1 : St) : Prop := (gK σ1 1333 = 12 ∧ gN σ1 1333 = 1) ∧ match o with
  | .inl (some (.int v)) => ∃ b : Bool, v = iv (bz b) ∧ Q (.inl (some (.int (iv 0)))) (setL σ1 1333 0 (iv (bz b)).toInt64)
  | .inr e => ∃ c, (e, c) ∈ cd ∧ Q (.inl (some (.int (iv c)))) σ1
  | _ => False
def WLd (cd : List (Nat × Int)) (Q : Out → St → Prop) (o : Out) (σ1 : St) : Prop := (gK σ1 1334 = 13 ∧ gN σ1 1334 = 1) ∧ match o with
  | .inl (some (.double v)) => Q (.inl (some (.int (iv 0)))) (setD σ1 1334 0 v)
  | .inr e => ∃ c, (e, c) ∈ cd ∧ Q (.inl (some (.int (iv c)))) σ1
  | _ => False
def WLf (cd : List (Nat × Int)) (Q : Out → St → Prop) (o : Out) (σ1 : St) : Prop := (gK σ1 1334 = 13 ∧ gN σ1 1334 = 1) ∧ match o with
  | .inl (some (.float v)) => (Jvm.FP.f2d v &&& 0x7fffffffffffffff ≤ 0x7ff0000000000000) ∧ Q (.inl (some (.int (iv 0)))) (setD σ1 1334 0 (Jvm.FP.f2d v))
  | .inr e => ∃ c, (e, c) ∈ cd ∧ Q (.inl (some (.int (iv c)))) σ1
  | _ => False
theorem Ex_mono {z : Nat} {as : List Value} {σ : St} {P Q : Out → St → Prop} (h : Ex z as σ P) (hPQ : ∀ o σ', P o σ' → Q o σ') : Ex z as σ Q := by
  obtain ⟨h1, n, q, h2, h3⟩ := h
  exact ⟨h1, n, q, h2, hPQ _ _ h3⟩
theorem ivx (v : Int32) : ∃ i : Int, v = iv i ∧ (-2147483648 ≤ i ∧ i < 2147483648) := ⟨v.toInt, (Int32.ofInt_toInt v).symm, Int32.le_toInt v, Int32.toInt_lt v⟩
theorem aft_h {z e b k : Nat} {r : List En} {ls st : List Value} {Q : Out → St → Prop} {σ : St} (h : hnd z ≠ []) (h2 : fnd (hnd z) e = some (b, k)) : aft z r ls st Q (.inr e) σ = ((okst ls k = true ∧ k < ls.length) ∧ Wp z (blk z b, ls.set k mk0, [], σ) Q) := by
  show (if hnd z = [] then _ else _) = _
  rw [if_neg h, h2]
theorem WC.rf {L : Nat} {xs : Nat → Int32} {σ : St} {a : PS} {n : Nat} {hs : Nat → PS} {k : Nat} {g : Nat → Nat → Int} (h1 : CW σ a n hs k g) (h2 : MW σ a n hs k g) (h3 : LLo L xs σ) : WC L xs σ 0 σ a n hs k g a n hs k g := ⟨h1, h2, h3, Nat.le_refl _, Nat.le_refl _⟩
theorem WC.bm {L : Nat} {xs : Nat → Int32} {σ : St} {σ1 : St} {d : Nat} {a' : PS} {n' : Nat} {hs' : Nat → PS} {k' : Nat} {g' : Nat → Nat → Int} {a : PS} {n : Nat} {hs : Nat → PS} {k : Nat} {g : Nat → Nat → Int} (h : WC L xs σ d σ1 a' n' hs' k' g' a n hs k g) : WC L xs σ (d + 1) (bmp σ1) a' n' hs' k' g' a n hs k g := ⟨h.1, h.2.1, h.2.2.1, by have := h.2.2.2.1; show gc σ1 + 1 ≤ _; omega, by have := h.2.2.2.2; show gs σ1 + 6 ≤ _; omega⟩
theorem WC.of {L : Nat} {xs : Nat → Int32} {σ : St} {σ1 : St} {σ2 : St} {d : Nat} {a' : PS} {n' : Nat} {hs' : Nat → PS} {k' : Nat} {g' : Nat → Nat → Int} {a : PS} {n : Nat} {hs : Nat → PS} {k : Nat} {g : Nat → Nat → Int} {T : Nat → Prop} (h : WC L xs σ d σ1 a' n' hs' k' g' a n hs k g) (ho : OF T σ1 σ2) (ht : ∀ p, T p → 3 ≤ p ∧ p < 838) {b : PS} {m : Nat} {hs2 : Nat → PS} {k2 : Nat} {g2 : Nat → Nat → Int} (hb : BI σ2 b m hs2) (hg : GC σ2 k2 g2) : WC L xs σ d σ2 b m hs2 k2 g2 a n hs k g := by
  obtain ⟨⟨h1, h2, h3, h4⟩, h5, h6, h7, h8⟩ := h
  exact ⟨⟨hb, h2.of ho, hg, h4.of ho (fun h => by have := ht _ h; omega)⟩, h5.sm (SMm.of ho (fun p hp h => by have := ht _ h; omega)), h6.of ho (fun h => by have := ht _ h; omega), by rw [ho.c]; exact h7, by rw [ho.s]; exact h8⟩
theorem WC.chg {L : Nat} {xs : Nat → Int32} {σ : St} {σ1 : St} {σ2 : St} {d : Nat} {a' : PS} {n' : Nat} {hs' : Nat → PS} {k' : Nat} {g' : Nat → Nat → Int} {a : PS} {n : Nat} {hs : Nat → PS} {k : Nat} {g : Nat → Nat → Int} (h : WC L xs σ d σ1 a' n' hs' k' g' a n hs k g) (ho : OF ow σ1 σ2) {b : PS} {m : Nat} {hs2 : Nat → PS} (hb : BI σ2 b m hs2) : WC L xs σ d σ2 b m hs2 k' g' a n hs k g := h.of ho (fun p hp => by unfold ow at hp; omega) hb (h.1.2.2.1.of ho ⟨fun h => by unfold ow at h; omega, fun h => by unfold ow at h; omega⟩)
theorem WC.scr {L : Nat} {xs : Nat → Int32} {σ : St} {σ1 : St} {σ2 : St} {d : Nat} {a' : PS} {n' : Nat} {hs' : Nat → PS} {k' : Nat} {g' : Nat → Nat → Int} {a : PS} {n : Nat} {hs : Nat → PS} {k : Nat} {g : Nat → Nat → Int} (h : WC L xs σ d σ1 a' n' hs' k' g' a n hs k g) (ho : OF sc σ1 σ2) : WC L xs σ d σ2 a' n' hs' k' g' a n hs k g := h.chg (ho.wk (fun p hp => sc_ow hp)) (h.1.1.scr ho)
theorem WC.sl {L : Nat} {xs : Nat → Int32} {σ : St} {σ1 : St} {d : Nat} {a' : PS} {n' : Nat} {hs' : Nat → PS} {k' : Nat} {g' : Nat → Nat → Int} {a : PS} {n : Nat} {hs : Nat → PS} {k : Nat} {g : Nat → Nat → Int} (h : WC L xs σ d σ1 a' n' hs' k' g' a n hs k g) (x : Int64) : WC L xs σ d (setL σ1 1333 0 x) a' n' hs' k' g' a n hs k g := by
  obtain ⟨h1, h2, h3, h4⟩ := h
  have hw : AW (setL σ1 1333 0 x) := fun p hp m hm => by
    have hp9 : gK σ1 p = 5 := hp
    have h0 := h1.1.2.1 p hp9 m hm
    have hne : p ≠ 1333 := fun e => by
      subst e
      have := h3.2.2.2.1
      omega
    unfold ss at h0 ⊢
    rw [show gL (setL σ1 1333 0 x) p 0 = gL σ1 p 0 from if_neg (fun h => hne h.1), show gL (setL σ1 1333 0 x) p 1 = gL σ1 p 1 from if_neg (fun h => hne h.1)]
    exact h0
  have s : SCm σ1 (setL σ1 1333 0 x) := ⟨hw, fun p hp => ⟨rfl, rfl, rfl, rfl, funext (fun j => show gL (setL σ1 1333 0 x) p j = gL σ1 p j from if_neg (fun h => by omega))⟩⟩
  exact ⟨h1.sm s, h2.sm (fun p _ _ => ⟨rfl, rfl, rfl, rfl⟩), h3, h4⟩
theorem WC.sd {L : Nat} {xs : Nat → Int32} {σ : St} {σ1 : St} {d : Nat} {a' : PS} {n' : Nat} {hs' : Nat → PS} {k' : Nat} {g' : Nat → Nat → Int} {a : PS} {n : Nat} {hs : Nat → PS} {k : Nat} {g : Nat → Nat → Int} (h : WC L xs σ d σ1 a' n' hs' k' g' a n hs k g) (x : UInt64) : WC L xs σ d (setD σ1 1334 0 x) a' n' hs' k' g' a n hs k g := h
theorem WC.ms {L : Nat} {xs : Nat → Int32} {σ : St} {σ1 : St} {d : Nat} {a : PS} {n : Nat} {hs : Nat → PS} {k : Nat} {g : Nat → Nat → Int} (h : WC L xs σ d σ1 a n hs k g a n hs k g) (hd : d ≤ 1) (x : Int32) : FIN L xs σ (setI σ1 838 0 x) := by
  obtain ⟨h1, h2, h3, h4, h5⟩ := h
  have s : SCm σ1 (setI σ1 838 0 x) := SCm.si h1.1.2.1 (by omega)
  exact ⟨⟨a, n, hs, k, g, h1.sm s, ⟨h2.1.s0 (by omega) x, h2.2.s0 (by omega) x⟩, h3.md s ⟨rfl, rfl⟩ ⟨rfl, rfl⟩ (Nat.le_refl _)⟩, by show gc σ1 ≤ _; omega, by show gs σ1 ≤ _; omega⟩
theorem WC.mm {L : Nat} {xs : Nat → Int32} {σ : St} {σ1 : St} {d : Nat} {a : PS} {n : Nat} {hs : Nat → PS} {k : Nat} {g : Nat → Nat → Int} (h : WC L xs σ d σ1 a n hs k g a n hs k g) (x : Int32) : WC L xs σ d (setI σ1 838 0 x) a n hs k g a n hs k g := by
  obtain ⟨h1, h2, h3, h4, h5⟩ := h
  have s : SCm σ1 (setI σ1 838 0 x) := SCm.si h1.1.2.1 (by omega)
  exact ⟨h1.sm s, ⟨h2.1.s0 (by omega) x, h2.2.s0 (by omega) x⟩, h3.md s ⟨rfl, rfl⟩ ⟨rfl, rfl⟩ (Nat.le_refl _), h4, h5⟩
theorem WC.mo {L : Nat} {xs : Nat → Int32} {σ : St} {σ1 : St} {σ2 : St} {d : Nat} {a' : PS} {n' : Nat} {hs' : Nat → PS} {a : PS} {n : Nat} {hs : Nat → PS} {k : Nat} {g : Nat → Nat → Int} (h : WC L xs σ d σ1 a' n' hs' k g a n hs k g) (hd : d ≤ 1) (ho : MO σ1 σ2) (hi : MI σ2 a' n' hs') : FIN L xs σ σ2 := by
  obtain ⟨h1, h2, h3, h4, h5⟩ := h
  have s : SCm σ1 σ2 := SCm.mo h1.1.2.1 ho
  have e := ho.1
  obtain ⟨I, R, e⟩ := e
  refine ⟨⟨a', n', hs', k, g, h1.sm s, ⟨hi, h2.2.mo ho⟩, h3.md s ⟨by rw [e]; rfl, by rw [e]; rfl⟩ ⟨by rw [e]; rfl, by rw [e]; rfl⟩ (by rw [e]; exact Nat.le_refl _)⟩, ?_, ?_⟩
  · rw [e]; show gc σ1 ≤ _; omega
  · rw [e]; show gs σ1 ≤ _; omega
theorem WC.mb {L : Nat} {xs : Nat → Int32} {σ : St} {σ1 : St} {σ2 : St} {d : Nat} {k' : Nat} {g' : Nat → Nat → Int} {a : PS} {n : Nat} {hs : Nat → PS} {k : Nat} {g : Nat → Nat → Int} (h : WC L xs σ d σ1 a n hs k' g' a n hs k g) (hd : d ≤ 1) {x : Int32} (ho : MB (setI σ1 838 0 x) σ2) (hi : MI σ2 a n hs) (hg : MG σ2 k' g') : FIN L xs σ σ2 := by
  obtain ⟨h1, h2, h3, h4, h5⟩ := h
  have s0 : SCm σ1 (setI σ1 838 0 x) := SCm.si h1.1.2.1 (by omega)
  have s : SCm σ1 σ2 := s0.tr (SCm.mb s0.1 ho)
  have e := ho.1
  obtain ⟨I, R, e⟩ := e
  refine ⟨⟨a, n, hs, k', g', h1.sm s, ⟨hi, hg⟩, h3.md s ⟨by rw [e]; rfl, by rw [e]; rfl⟩ ⟨by rw [e]; rfl, by rw [e]; rfl⟩ (by rw [e]; exact Nat.le_refl _)⟩, ?_, ?_⟩
  · rw [e]; show gc σ1 ≤ _; omega
  · rw [e]; show gs σ1 ≤ _; omega
theorem MO.L {σ σ' : St} (h : MO σ σ') : gL σ' = gL σ := by obtain ⟨⟨I, R, rfl⟩, -⟩ := h; rfl
theorem MO.D {σ σ' : St} (h : MO σ σ') : gD σ' = gD σ := by obtain ⟨⟨I, R, rfl⟩, -⟩ := h; rfl
theorem MB.L {σ σ' : St} (h : MB σ σ') : gL σ' = gL σ := by obtain ⟨⟨I, R, rfl⟩, -⟩ := h; rfl
theorem gL_sl {σ : St} {p k : Nat} {x : Int64} : gL (setL σ p k x) p k = x := if_pos ⟨rfl, rfl⟩
theorem gD_sd {σ : St} {p k : Nat} {x : UInt64} : gD (setD σ p k x) p k = x := if_pos ⟨rfl, rfl⟩
theorem gI_si {σ : St} {p k : Nat} {x : Int32} : gI (setI σ p k x) p k = x := if_pos ⟨rfl, rfl⟩
