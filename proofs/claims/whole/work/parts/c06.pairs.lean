/-! CLASS AND MODEL ALIKE: groups, means, errors -/
theorem f2d_num {v : UInt32} (h : Jvm.FP.Core.val32 v ≠ .nan) : Jvm.FP.Core.val64 (Jvm.FP.f2d v) ≠ .nan := by
  have h1 : Jvm.FP.Core.fIsNaN v = false := decide_eq_false h
  have h2 := Jvm.FP.Core.f2d_out h1
  have h3 : Jvm.FP.Core.val64 (Jvm.FP.Core.f2d v) ≠ .nan := of_decide_eq_false h2
  rw [Jvm.FP.f2d_core (a := v) h1]
  exact h3
theorem fc0_num : Jvm.FP.f2d Jvm.FP.fconst0 &&& 0x7fffffffffffffff ≤ 0x7ff0000000000000 := by
  refine dnum (f2d_num ?_)
  show Jvm.FP.Core.val32 Jvm.FP.Core.fconst0 ≠ .nan
  rw [Jvm.FP.Core.val32_fconst0]
  intro h9
  cases h9
theorem dself {x : UInt64} (h : Jvm.FP.Core.val64 x ≠ .nan) : Jvm.FP.dcmp x x = some .eq := Jvm.FP.Core.dcmp_self h
theorem GC.cong {σ : St} {n : Nat} {g g' : Nat → Nat → Int} (h : GC σ n g) (e : ∀ i, i < n → ∀ k, k < 5 → g i k = g' i k) : GC σ n g' := ⟨h.1, fun i hi k hk => by rw [← e i hi k hk]; exact h.2 i hi k hk⟩
theorem WC.gc {L : Nat} {xs : Nat → Int32} {σ : St} {σ1 : St} {d : Nat} {a' : PS} {n' : Nat} {hs' : Nat → PS} {k' : Nat} {g' : Nat → Nat → Int} {a : PS} {n : Nat} {hs : Nat → PS} {k : Nat} {g : Nat → Nat → Int} {g2 : Nat → Nat → Int} (h : WC L xs σ d σ1 a' n' hs' k' g' a n hs k g) (e : ∀ i, i < k' → ∀ j, j < 5 → g' i j = g2 i j) : WC L xs σ d σ1 a' n' hs' k' g2 a n hs k g := ⟨⟨h.1.1, h.1.2.1, h.1.2.2.1.cong e, h.1.2.2.2⟩, h.2⟩
theorem WC.mf {L : Nat} {xs : Nat → Int32} {σ : St} {σ1 : St} {σ2 : St} {d : Nat} {a : PS} {n : Nat} {hs : Nat → PS} {k : Nat} {g : Nat → Nat → Int} (h : WC L xs σ d σ1 a n hs k g a n hs k g) (hd : d ≤ 1) (hf : MFr σ1 σ2) (hz : gI σ2 838 0 = iv 0) (hp : ∀ p, p < gx σ1 + 2 → (p = 838 → ∀ k, k ≠ 0 → gI σ2 p k = gI σ1 p k) ∧ (p ≠ 838 → gI σ2 p = gI σ1 p) ∧ gR σ2 p = gR σ1 p) : FIN L xs σ σ2 := by
  obtain ⟨h1, h2, h3, h4, h5⟩ := h
  have hx := h3.2.2.2.2.2.2.2
  have s : SCm σ1 σ2 := SCm.mf h1.1.2.1 (by omega) hf
  have s2 : SMm (setI σ1 838 0 (iv 0)) σ2 := fun p p1 p2 => by
    obtain ⟨q1, q2, q3⟩ := hp p (by omega)
    obtain ⟨f1, f2, f3, f4, f5⟩ := hf.2.2.2.2 p (by omega)
    refine ⟨f1, f2, ?_, q3⟩
    by_cases e : p = 838
    · subst e
      funext j
      rw [gI_I]
      by_cases e2 : j = 0
      · subst e2; rw [if_pos ⟨rfl, rfl⟩]; exact hz
      · rw [if_neg (fun h => e2 h.2)]; exact q1 rfl j e2
    · rw [q2 e]
      funext j
      rw [gI_I, if_neg (fun h => e h.1)]
  have h2' : MW (setI σ1 838 0 (iv 0)) a n hs k g := ⟨h2.1.s0 (by omega) _, h2.2.s0 (by omega) _⟩
  obtain ⟨e1, e2, -⟩ := hf.2.2.2.2 1333 (by omega)
  obtain ⟨e3, e4, -⟩ := hf.2.2.2.2 1334 (by omega)
  refine ⟨⟨a, n, hs, k, g, h1.sm s, h2'.sm s2, h3.md s ⟨e1, e2⟩ ⟨e3, e4⟩ hf.1⟩, ?_, ?_⟩
  · have := hf.2.1; omega
  · have := hf.2.2.1; omega
/-- calls without a wrapper -/
def P0 (L : Nat) (xs : Nat → Int32) (σ : St) (y : Nat) (o1 : Out) (σ1 : St) : Prop := gK σ1 838 = 8 ∧ ∃ v : Int, o1 = .inl (some (.int (iv v))) ∧ Ex y [.ref 838] σ1 (fun o2 σ2 => o2 = .inl (some (.int (iv v))) ∧ FIN L xs σ σ2)
theorem p_rows {L : Nat} {xs : Nat → Int32} {σ : St} (hw : WI L xs σ) : Ex 101 [.ref 2] σ (P0 L xs σ 205) := by
  obtain ⟨a, n, hs, k, g, hc, hm, hl⟩ := hw
  have ww := WC.rf hc hm hl
  refine Eq.mpr (c_rows hc.1) ?_
  refine ⟨hm.1.1.1, _, rfl, ?_⟩
  refine Eq.mpr (m_rows hm.1.1 hm.1.2.1) ?_
  exact ⟨rfl, ww.ms (by omega) (iv 0)⟩
theorem p_conditions {L : Nat} {xs : Nat → Int32} {σ : St} (hw : WI L xs σ) : Ex 125 [.ref 2] σ (P0 L xs σ 241) := by
  obtain ⟨a, n, hs, k, g, hc, hm, hl⟩ := hw
  have ww := WC.rf hc hm hl
  refine Eq.mpr (c_conditions hc.1) ?_
  refine ⟨hm.1.1.1, _, rfl, ?_⟩
  refine Eq.mpr (m_conditions hm.1.1 hm.1.2.1 hc.1.2.2.1) ?_
  exact ⟨rfl, ww.ms (by omega) (iv 0)⟩
theorem p_planCost {L : Nat} {xs : Nat → Int32} {σ : St} (hw : WI L xs σ) : Ex 128 [.ref 2] σ (P0 L xs σ 244) := by
  obtain ⟨a, n, hs, k, g, hc, hm, hl⟩ := hw
  have ww := WC.rf hc hm hl
  refine Eq.mpr (c_planCost hc.1) ?_
  refine ⟨hm.1.1.1, _, rfl, ?_⟩
  refine Eq.mpr (m_planCost hm.1.1 hm.1.2.1 hc.1.2.2.1) ?_
  exact ⟨rfl, ww.ms (by omega) (iv 0)⟩
theorem p_errors {L : Nat} {xs : Nat → Int32} {σ : St} (hw : WI L xs σ) : Ex 131 [.ref 2] σ (P0 L xs σ 249) := by
  obtain ⟨a, n, hs, k, g, hc, hm, hl⟩ := hw
  have ww := WC.rf hc hm hl
  refine c_errors hc.1 hc.2.2.2 (fun σ1 ho => ?_)
  have w1 := ww.scr ho
  refine ⟨w1.2.1.1.1.1, 0, rfl, ?_⟩
  refine m_errors w1.2.1.1.1 w1.2.1.1.2.1 hc.1.2.2.1 (by have := w1.2.2.1.2.2.2.2.2.2.2; omega) (fun σ2 hf hz hp => ?_)
  exact ⟨rfl, w1.mf (by omega) hf hz hp⟩
theorem p_rollup {L : Nat} {xs : Nat → Int32} {σ : St} (hw : WI L xs σ) (v1 v2 : Int32) : Ex 292 [.ref 2, .int v1, .int v2, .ref 1333] σ (PR L xs σ 230 [.ref 838, .int v1, .int v2]) := by
  obtain ⟨a, n, hs, k, g, hc, hm, hl⟩ := hw
  obtain ⟨i1, rfl, r1⟩ := ivx v1
  obtain ⟨i2, rfl, r2⟩ := ivx v2
  have ww := WC.rf hc hm hl
  have hb := hc.1
  have hwf : WF a := hb.2.2.1
  have h481 := hm.2.1
  have hpM : pM a ≤ 4 := hwf.2.2.2.2.2.1
  have hn8 : n ≤ 8 := hm.1.2.2.1
  have hT120 := fb_ct_le (pT a) 120
  refine L_292 hb.1.1 ?_
  by_cases h1 : (i1 < 0 ∨ 8 ≤ i1)
  · refine Eq.mpr (c_rollup_f1 (f := i1) (w := i2) hb (by omega) (by omega) (by omega)) ?_
    have wb := ww.bm
    exact WL_f wb (by omega) (by decide) (by omega) (fun Q => m_rollup_f1 (f := i1) (w := i2) wb.2.1.1.1 wb.2.1.1.2.1 hwf (by omega) (by omega) (by omega))
  by_cases h2 : (i2 < 1 ∨ 15 < i2)
  · refine Eq.mpr (c_rollup_f2 (f := i1) (w := i2) hb (by omega) (by omega) (by omega) (by omega)) ?_
    have wb := ww.bm
    exact WL_f wb (by omega) (by decide) (by omega) (fun Q => m_rollup_f2 (f := i1) (w := i2) wb.2.1.1.1 wb.2.1.1.2.1 hwf (by omega) (by omega) (by omega) (by omega))
  refine c_rollup_t (f := i1) (w := i2) hb hc.2.1 (by omega) (by omega) (fun σ1 k1 g1 ho hb1 hg1 hs1 h9 => ?_)
  have w1 := ww.of ho (fun p hp => by
    unfold gsc at hp
    rcases hp with hp | hp
    · have := sc_ow hp
      unfold ow at this
      omega
    · omega) hb1 hg1
  have w2 := w1.sl (iv (k1 : Nat)).toInt64
  refine ⟨w1.kn.1, w2.lk, 0, rfl, ?_⟩
  refine m_rollup_t (f := i1) (w := i2) w2.2.1.1 hwf (by omega) (by omega) w2.2.1.2 (fun σ2 k2 g2 ho2 hz2 hi2 hg2 hs2 => ?_)
  obtain ⟨e1, e2⟩ := SEG.one (fun r c => (hwf.rg r c).2) hs1 hs2
  subst e1
  exact ⟨k1, rfl, ⟨by omega, by omega⟩, hz2, fun _ => by rw [ho2.L]; exact gL_sl, (w2.gc e2).mb (by omega) ho2 hi2 hg2⟩

theorem p_mean {L : Nat} {xs : Nat → Int32} {σ : St} (hw : WI L xs σ) (v1 v2 : Int32) : Ex 299 [.ref 2, .int v1, .int v2, .ref 1334] σ (PRd L xs σ 245 [.ref 838, .int v1, .int v2]) := by
  obtain ⟨a, n, hs, k, g, hc, hm, hl⟩ := hw
  obtain ⟨i1, rfl, r1⟩ := ivx v1
  obtain ⟨i2, rfl, r2⟩ := ivx v2
  have ww := WC.rf hc hm hl
  have hb := hc.1
  have hwf : WF a := hb.2.2.1
  have h481 := hm.2.1
  have hpM : pM a ≤ 4 := hwf.2.2.2.2.2.1
  have hn8 : n ≤ 8 := hm.1.2.2.1
  have hT120 := fb_ct_le (pT a) 120
  refine L_299 hb.1.1 ?_
  by_cases h1 : (i1 < 0 ∨ 8 ≤ i1) ∨ (i2 < 0 ∨ 4 ≤ i2)
  · refine Eq.mpr (c_mean_f1 (f := i1) (c := i2) hb (by omega) (by omega) (by omega)) ?_
    have wb := ww.bm
    exact WLd_f wb (by omega) (by decide) (by omega) (fun Q => m_mean_f1 (f := i1) (c := i2) wb.2.1.1.1 wb.2.1.1.2.1 hwf (by omega) (by omega) (by omega))
  refine Eq.mpr (c_mean_t (f := i1) (c := i2) hb (by omega) (by omega)) ?_
  exact WLd_q (dself (meanF_num (by have := fb_ct_le (fun r => pF a i1.toNat r && isv (pV a r i2.toNat)) 120; omega))) ww (by omega) (fun σ' Q hi hg h => Eq.mpr (m_mean_t (f := i1) (c := i2) hi.1 hi.2.1 hwf (by omega) (by omega)) h)

theorem p_share {L : Nat} {xs : Nat → Int32} {σ : St} (hw : WI L xs σ) (v1 : Int32) : Ex 300 [.ref 2, .int v1, .ref 1334] σ (PRf L xs σ 246 [.ref 838, .int v1]) := by
  obtain ⟨a, n, hs, k, g, hc, hm, hl⟩ := hw
  obtain ⟨i1, rfl, r1⟩ := ivx v1
  have ww := WC.rf hc hm hl
  have hb := hc.1
  have hwf : WF a := hb.2.2.1
  have h481 := hm.2.1
  have hpM : pM a ≤ 4 := hwf.2.2.2.2.2.1
  have hn8 : n ≤ 8 := hm.1.2.2.1
  have hT120 := fb_ct_le (pT a) 120
  refine L_300 hb.1.1 ?_
  by_cases h1 : (i1 < 0 ∨ 8 ≤ i1)
  · refine Eq.mpr (c_share_f1 (f := i1) hb (by omega) (by omega)) ?_
    have wb := ww.bm
    exact WLf_f fc0_num wb (by omega) (by decide) (by omega) (fun Q => m_share_f1 (f := i1) wb.2.1.1.1 wb.2.1.1.2.1 hwf (by omega) (by omega))
  refine Eq.mpr (c_share_t (f := i1) hb (by omega)) ?_
  have hct2 := fb_ct_le (pF a i1.toNat) 120
  have hnm := f2d_num (shareF_num (some := (fb_ct (pF a i1.toNat) 120 : Nat)) (many := (fb_ct (pT a) 120 : Nat)) (by omega) (by omega))
  exact WLf_q (dself hnm) (dnum hnm) ww (by omega) (fun σ' Q hi hg h => Eq.mpr (m_share_t (f := i1) hi.1 hi.2.1 hwf (by omega)) h)

