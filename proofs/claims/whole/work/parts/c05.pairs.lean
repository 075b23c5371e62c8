/-! CLASS AND MODEL ALIKE: the rest -/
theorem p_setValue {L : Nat} {xs : Nat → Int32} {σ : St} (hw : WI L xs σ) (v1 v2 v3 : Int32) : Ex 255 [.ref 2, .int v1, .int v2, .int v3, .ref 1333] σ (PR L xs σ 182 [.ref 838, .int v1, .int v2, .int v3]) := by
  obtain ⟨a, n, hs, k, g, hc, hm, hl⟩ := hw
  obtain ⟨i1, rfl, r1⟩ := ivx v1
  obtain ⟨i2, rfl, r2⟩ := ivx v2
  obtain ⟨i3, rfl, r3⟩ := ivx v3
  have ww := WC.rf hc hm hl
  have hb := hc.1
  have hwf : WF a := hb.2.2.1
  have h481 := hm.2.1
  have hpM : pM a ≤ 4 := hwf.2.2.2.2.2.1
  have hn8 : n ≤ 8 := hm.1.2.2.1
  have hT120 := fb_ct_le (pT a) 120
  refine L_255 hb.1.1 ?_
  cases hT : pT a i1.toNat
  · refine Eq.mpr (c_setValue_f1 (r := i1) (c := i2) (v := i3) hb (by first | omega | assumption | (simp [hT]; done) | (simp [hT]; omega)) (by first | omega | assumption | (simp [hT]; done) | (simp [hT]; omega)) (by first | omega | assumption | (simp [hT]; done) | (simp [hT]; omega)) (by first | omega | assumption | (simp [hT]; done) | (simp [hT]; omega))) ?_
    have wb := ww.bm
    exact WL_f wb (by omega) (by decide) (by omega) (fun Q => m_setValue_f1 (r := i1) (c := i2) (v := i3) wb.2.1.1.1 wb.2.1.1.2.1 hwf (by first | omega | assumption | (simp [hT]; done) | (simp [hT]; omega)) (by first | omega | assumption | (simp [hT]; done) | (simp [hT]; omega)) (by first | omega | assumption | (simp [hT]; done) | (simp [hT]; omega)) (by first | omega | assumption | (simp [hT]; done) | (simp [hT]; omega)))
  have hT9 : i1.toNat < 120 := by
    refine Nat.lt_of_not_le (fun h => ?_)
    rw [hwf.1 _ h] at hT
    exact Bool.noConfusion hT
  by_cases h1 : (i1 < 0 ∨ 119 < i1) ∨ (i2 < 0 ∨ 4 ≤ i2)
  · refine Eq.mpr (c_setValue_f1 (r := i1) (c := i2) (v := i3) hb (by first | omega | assumption | (simp [hT]; done) | (simp [hT]; omega)) (by first | omega | assumption | (simp [hT]; done) | (simp [hT]; omega)) (by first | omega | assumption | (simp [hT]; done) | (simp [hT]; omega)) (by first | omega | assumption | (simp [hT]; done) | (simp [hT]; omega))) ?_
    have wb := ww.bm
    exact WL_f wb (by omega) (by decide) (by omega) (fun Q => m_setValue_f1 (r := i1) (c := i2) (v := i3) wb.2.1.1.1 wb.2.1.1.2.1 hwf (by first | omega | assumption | (simp [hT]; done) | (simp [hT]; omega)) (by first | omega | assumption | (simp [hT]; done) | (simp [hT]; omega)) (by first | omega | assumption | (simp [hT]; done) | (simp [hT]; omega)) (by first | omega | assumption | (simp [hT]; done) | (simp [hT]; omega)))
  by_cases h2 : ((i3 < -64 ∨ 63 < i3) ∧ (i3 < 100 ∨ 100 < i3))
  · refine Eq.mpr (c_setValue_f2 (r := i1) (c := i2) (v := i3) hb (by first | omega | assumption | (simp [hT]; done) | (simp [hT]; omega)) (by first | omega | assumption | (simp [hT]; done) | (simp [hT]; omega)) (by first | omega | assumption | (simp [hT]; done) | (simp [hT]; omega)) (by first | omega | assumption | (simp [hT]; done) | (simp [hT]; omega)) (by first | omega | assumption | (simp [hT]; done) | (simp [hT]; omega)) (by first | omega | assumption | (simp [hT]; done) | (simp [hT]; omega))) ?_
    have wb := ww.bm
    exact WL_f wb (by omega) (by decide) (by omega) (fun Q => m_setValue_f2 (r := i1) (c := i2) (v := i3) wb.2.1.1.1 wb.2.1.1.2.1 hwf (by first | omega | assumption | (simp [hT]; done) | (simp [hT]; omega)) (by first | omega | assumption | (simp [hT]; done) | (simp [hT]; omega)) (by first | omega | assumption | (simp [hT]; done) | (simp [hT]; omega)) (by first | omega | assumption | (simp [hT]; done) | (simp [hT]; omega)) (by first | omega | assumption | (simp [hT]; done) | (simp [hT]; omega)) (by first | omega | assumption | (simp [hT]; done) | (simp [hT]; omega)))
  refine c_setValue_t (r := i1) (c := i2) (v := i3) hb (by first | omega | assumption | (simp [hT]; done) | (simp [hT]; omega)) (by first | omega | assumption | (simp [hT]; done) | (simp [hT]; omega)) (by first | omega | assumption | (simp [hT]; done) | (simp [hT]; omega)) (by first | omega | assumption | (simp [hT]; done) | (simp [hT]; omega)) (fun σ1 ho hb1 => WL_c (ww.chg ho hb1) (by omega) (fun σ' Q hi hQ => m_setValue_t (r := i1) (c := i2) (v := i3) hi hwf (by first | omega | assumption | (simp [hT]; done) | (simp [hT]; omega)) (by first | omega | assumption | (simp [hT]; done) | (simp [hT]; omega)) (by first | omega | assumption | (simp [hT]; done) | (simp [hT]; omega)) (by first | omega | assumption | (simp [hT]; done) | (simp [hT]; omega)) hQ))

theorem p_strike {L : Nat} {xs : Nat → Int32} {σ : St} (hw : WI L xs σ) (v1 : Int32) : Ex 256 [.ref 2, .int v1, .ref 1333] σ (PR L xs σ 183 [.ref 838, .int v1]) := by
  obtain ⟨a, n, hs, k, g, hc, hm, hl⟩ := hw
  obtain ⟨i1, rfl, r1⟩ := ivx v1
  have ww := WC.rf hc hm hl
  have hb := hc.1
  have hwf : WF a := hb.2.2.1
  have h481 := hm.2.1
  have hpM : pM a ≤ 4 := hwf.2.2.2.2.2.1
  have hn8 : n ≤ 8 := hm.1.2.2.1
  have hT120 := fb_ct_le (pT a) 120
  refine L_256 hb.1.1 ?_
  cases hT : pT a i1.toNat
  · refine Eq.mpr (c_strike_f1 (r := i1) hb (by first | omega | assumption | (simp [hT]; done) | (simp [hT]; omega)) (by first | omega | assumption | (simp [hT]; done) | (simp [hT]; omega))) ?_
    have wb := ww.bm
    exact WL_f wb (by omega) (by decide) (by omega) (fun Q => m_strike_f1 (r := i1) wb.2.1.1.1 wb.2.1.1.2.1 hwf (by first | omega | assumption | (simp [hT]; done) | (simp [hT]; omega)) (by first | omega | assumption | (simp [hT]; done) | (simp [hT]; omega)))
  have hT9 : i1.toNat < 120 := by
    refine Nat.lt_of_not_le (fun h => ?_)
    rw [hwf.1 _ h] at hT
    exact Bool.noConfusion hT
  by_cases h1 : (i1 < 0 ∨ 119 < i1)
  · refine Eq.mpr (c_strike_f1 (r := i1) hb (by first | omega | assumption | (simp [hT]; done) | (simp [hT]; omega)) (by first | omega | assumption | (simp [hT]; done) | (simp [hT]; omega))) ?_
    have wb := ww.bm
    exact WL_f wb (by omega) (by decide) (by omega) (fun Q => m_strike_f1 (r := i1) wb.2.1.1.1 wb.2.1.1.2.1 hwf (by first | omega | assumption | (simp [hT]; done) | (simp [hT]; omega)) (by first | omega | assumption | (simp [hT]; done) | (simp [hT]; omega)))
  refine c_strike_t (r := i1) hb (by first | omega | assumption | (simp [hT]; done) | (simp [hT]; omega)) (by first | omega | assumption | (simp [hT]; done) | (simp [hT]; omega)) (fun σ1 ho hb1 => WL_c (ww.chg ho hb1) (by omega) (fun σ' Q hi hQ => m_strike_t (r := i1) hi hwf (by first | omega | assumption | (simp [hT]; done) | (simp [hT]; omega)) (by first | omega | assumption | (simp [hT]; done) | (simp [hT]; omega)) hQ))

theorem p_put {L : Nat} {xs : Nat → Int32} {σ : St} (hw : WI L xs σ) (v1 v2 : Int32) {w : Int} (hw1 : w = 0 ∨ w = 1) : Ex 263 [.ref 2, .int v1, .int v2, .int (iv w), .ref 1333] σ (PRb L xs σ 192 [.ref 838, .int v1, .int v2, .int (iv w)]) := by
  obtain ⟨a, n, hs, k, g, hc, hm, hl⟩ := hw
  obtain ⟨i1, rfl, r1⟩ := ivx v1
  obtain ⟨i2, rfl, r2⟩ := ivx v2
  have ww := WC.rf hc hm hl
  have hb := hc.1
  have hwf : WF a := hb.2.2.1
  have h481 := hm.2.1
  have hpM : pM a ≤ 4 := hwf.2.2.2.2.2.1
  have hn8 : n ≤ 8 := hm.1.2.2.1
  have hT120 := fb_ct_le (pT a) 120
  refine L_263 hb.1.1 ?_
  cases hT : pT a i2.toNat
  · refine Eq.mpr (c_put_f1 (f := i1) (r := i2) (w := w) hb (by first | omega | assumption | (simp [hT]; done) | (simp [hT]; omega)) (by first | omega | assumption | (simp [hT]; done) | (simp [hT]; omega)) (by first | omega | assumption | (simp [hT]; done) | (simp [hT]; omega)) (by first | omega | assumption | (simp [hT]; done) | (simp [hT]; omega))) ?_
    have wb := ww.bm
    exact WLb_f wb (by omega) (by decide) (by omega) (fun Q => m_put_f1 (f := i1) (r := i2) (w := w) wb.2.1.1.1 wb.2.1.1.2.1 hwf (by first | omega | assumption | (simp [hT]; done) | (simp [hT]; omega)) (by first | omega | assumption | (simp [hT]; done) | (simp [hT]; omega)) (by first | omega | assumption | (simp [hT]; done) | (simp [hT]; omega)) (by first | omega | assumption | (simp [hT]; done) | (simp [hT]; omega)))
  have hT9 : i2.toNat < 120 := by
    refine Nat.lt_of_not_le (fun h => ?_)
    rw [hwf.1 _ h] at hT
    exact Bool.noConfusion hT
  by_cases h1 : (i1 < 0 ∨ 8 ≤ i1) ∨ (i2 < 0 ∨ 119 < i2)
  · refine Eq.mpr (c_put_f1 (f := i1) (r := i2) (w := w) hb (by first | omega | assumption | (simp [hT]; done) | (simp [hT]; omega)) (by first | omega | assumption | (simp [hT]; done) | (simp [hT]; omega)) (by first | omega | assumption | (simp [hT]; done) | (simp [hT]; omega)) (by first | omega | assumption | (simp [hT]; done) | (simp [hT]; omega))) ?_
    have wb := ww.bm
    exact WLb_f wb (by omega) (by decide) (by omega) (fun Q => m_put_f1 (f := i1) (r := i2) (w := w) wb.2.1.1.1 wb.2.1.1.2.1 hwf (by first | omega | assumption | (simp [hT]; done) | (simp [hT]; omega)) (by first | omega | assumption | (simp [hT]; done) | (simp [hT]; omega)) (by first | omega | assumption | (simp [hT]; done) | (simp [hT]; omega)) (by first | omega | assumption | (simp [hT]; done) | (simp [hT]; omega)))
  refine c_put_t (f := i1) (r := i2) (w := w) hb (by first | omega | assumption | (simp [hT]; done) | (simp [hT]; omega)) (by first | omega | assumption | (simp [hT]; done) | (simp [hT]; omega)) (by first | omega | assumption | (simp [hT]; done) | (simp [hT]; omega)) (by first | omega | assumption | (simp [hT]; done) | (simp [hT]; omega)) (fun σ1 ho hb1 => WLb_c (ww.chg ho hb1) (by omega) (fun σ' Q hi hQ => m_put_t (f := i1) (r := i2) (w := w) hi hwf (by first | omega | assumption | (simp [hT]; done) | (simp [hT]; omega)) (by first | omega | assumption | (simp [hT]; done) | (simp [hT]; omega)) (by first | omega | assumption | (simp [hT]; done) | (simp [hT]; omega)) (by first | omega | assumption | (simp [hT]; done) | (simp [hT]; omega)) hQ))

theorem p_nextRow {L : Nat} {xs : Nat → Int32} {σ : St} (hw : WI L xs σ) (v1 : Int32) : Ex 274 [.ref 2, .int v1, .ref 1333] σ (PR L xs σ 206 [.ref 838, .int v1]) := by
  obtain ⟨a, n, hs, k, g, hc, hm, hl⟩ := hw
  obtain ⟨i1, rfl, r1⟩ := ivx v1
  have ww := WC.rf hc hm hl
  have hb := hc.1
  have hwf : WF a := hb.2.2.1
  have h481 := hm.2.1
  have hpM : pM a ≤ 4 := hwf.2.2.2.2.2.1
  have hn8 : n ≤ 8 := hm.1.2.2.1
  have hT120 := fb_ct_le (pT a) 120
  refine L_274 hb.1.1 ?_
  by_cases h1 : i1 < 0
  · refine Eq.mpr (c_nextRow_f (i := i1) hb (by omega) (by omega)) ?_
    have wb := ww.bm
    exact WL_f wb (by omega) (by decide) (by omega) (fun Q => m_nextRow_f1 (i := i1) wb.2.1.1.1 wb.2.1.1.2.1 hwf (by omega) (by omega))
  refine Eq.mpr (c_nextRow_t (i := i1) hb (by omega)) ?_
  exact WL_q ww (by omega) (fun σ' Q hi hg h => Eq.mpr (m_nextRow_t (i := i1) hi.1 hi.2.1 (by omega)) h)

theorem p_count {L : Nat} {xs : Nat → Int32} {σ : St} (hw : WI L xs σ) (v1 : Int32) : Ex 280 [.ref 2, .int v1, .ref 1333] σ (PR L xs σ 212 [.ref 838, .int v1]) := by
  obtain ⟨a, n, hs, k, g, hc, hm, hl⟩ := hw
  obtain ⟨i1, rfl, r1⟩ := ivx v1
  have ww := WC.rf hc hm hl
  have hb := hc.1
  have hwf : WF a := hb.2.2.1
  have h481 := hm.2.1
  have hpM : pM a ≤ 4 := hwf.2.2.2.2.2.1
  have hn8 : n ≤ 8 := hm.1.2.2.1
  have hT120 := fb_ct_le (pT a) 120
  refine L_280 hb.1.1 ?_
  by_cases h1 : i1 < 0 ∨ 8 ≤ i1
  · refine Eq.mpr (c_count_f (f := i1) hb (by omega) (by omega)) ?_
    have wb := ww.bm
    exact WL_f wb (by omega) (by decide) (by omega) (fun Q => m_count_f1 (f := i1) wb.2.1.1.1 wb.2.1.1.2.1 hwf (by omega) (by omega))
  refine Eq.mpr (c_count_t (f := i1) hb (by omega)) ?_
  exact WL_q ww (by omega) (fun σ' Q hi hg h => Eq.mpr (m_count_t (f := i1) hi.1 hi.2.1 hwf (by omega) (by omega)) h)

theorem p_addRow {L : Nat} {xs : Nat → Int32} {σ : St} (hw : WI L xs σ) (v1 v2 v3 v4 : Int32) : Ex 253 [.ref 2, .int v1, .int v2, .int v3, .int v4, .ref 1333] σ (PR L xs σ 178 [.ref 838, .int v1, .int v2, .int v3, .int v4]) := by
  obtain ⟨a, n, hs, k, g, hc, hm, hl⟩ := hw
  obtain ⟨i1, rfl, r1⟩ := ivx v1
  obtain ⟨i2, rfl, r2⟩ := ivx v2
  obtain ⟨i3, rfl, r3⟩ := ivx v3
  obtain ⟨i4, rfl, r4⟩ := ivx v4
  have ww := WC.rf hc hm hl
  have hb := hc.1
  have hwf : WF a := hb.2.2.1
  have h481 := hm.2.1
  have hpM : pM a ≤ 4 := hwf.2.2.2.2.2.1
  have hn8 : n ≤ 8 := hm.1.2.2.1
  have hT120 := fb_ct_le (pT a) 120
  refine L_253 hb.1.1 ?_
  by_cases h1 : ((i1 < -64 ∨ 63 < i1) ∧ (i1 < 100 ∨ 100 < i1)) ∨ ((i2 < -64 ∨ 63 < i2) ∧ (i2 < 100 ∨ 100 < i2)) ∨ ((i3 < -64 ∨ 63 < i3) ∧ (i3 < 100 ∨ 100 < i3)) ∨ ((i4 < -64 ∨ 63 < i4) ∧ (i4 < 100 ∨ 100 < i4))
  · refine Eq.mpr (c_addRow_f1 (u := i1) (v := i2) (w := i3) (x := i4) hb (by omega) (by omega) (by omega) (by omega) (by omega)) ?_
    have wb := ww.bm
    exact WL_f wb (by omega) (by decide) (by omega) (fun Q => m_addRow_f1 (u := i1) (v := i2) (w := i3) (x := i4) wb.2.1.1.1 wb.2.1.1.2.1 hwf (by omega) (by omega) (by omega) (by omega) (by omega))
  by_cases h2 : (120 < (fb_ct (pT a) 120 : Nat) + (1 : Int))
  · refine Eq.mpr (c_addRow_f2 (u := i1) (v := i2) (w := i3) (x := i4) hb (by omega) (by omega) (by omega) (by omega) (by omega) (by omega) (by omega) (by omega) (by omega)) ?_
    have wb := ww.bm
    exact WL_f wb (by omega) (by decide) (by omega) (fun Q => m_addRow_f2 (u := i1) (v := i2) (w := i3) (x := i4) wb.2.1.1.1 wb.2.1.1.2.1 hwf (by omega) (by omega) (by omega) (by omega) (by omega) (by omega) (by omega) (by omega) (by omega))
  refine c_addRow_t (u := i1) (v := i2) (w := i3) (x := i4) hb (by omega) (by omega) (by omega) (by omega) (by omega) (fun σ1 r1 hr ho hb1 => WL_c (ww.chg ho hb1) (by omega) (fun σ' Q hi hQ => m_addRow_t (u := i1) (v := i2) (w := i3) (x := i4) hi hwf (by omega) (by omega) (by omega) (by omega) (by omega) (fun σ2 r2 hr2 ho2 hz2 hi2 => by
    obtain rfl := NR.uq hr hr2
    exact hQ σ2 ho2 hz2 hi2)))

theorem p_fill {L : Nat} {xs : Nat → Int32} {σ : St} (hw : WI L xs σ) (v1 v2 v3 : Int32) : Ex 254 [.ref 2, .int v1, .int v2, .int v3, .ref 1333] σ (PR L xs σ 181 [.ref 838, .int v1, .int v2, .int v3]) := by
  obtain ⟨a, n, hs, k, g, hc, hm, hl⟩ := hw
  obtain ⟨i1, rfl, r1⟩ := ivx v1
  obtain ⟨i2, rfl, r2⟩ := ivx v2
  obtain ⟨i3, rfl, r3⟩ := ivx v3
  have ww := WC.rf hc hm hl
  have hb := hc.1
  have hwf : WF a := hb.2.2.1
  have h481 := hm.2.1
  have hpM : pM a ≤ 4 := hwf.2.2.2.2.2.1
  have hn8 : n ≤ 8 := hm.1.2.2.1
  have hT120 := fb_ct_le (pT a) 120
  refine L_254 hb.1.1 ?_
  by_cases h1 : (i2 < 1 ∨ 20 < i2) ∨ (i3 < 1 ∨ 64 < i3)
  · refine Eq.mpr (c_fill_f1 (s := i1) (m := i2) (d := i3) hb (by omega) (by omega) (by omega) (by omega)) ?_
    have wb := ww.bm
    exact WL_f wb (by omega) (by decide) (by omega) (fun Q => m_fill_f1 (s := i1) (m := i2) (d := i3) wb.2.1.1.1 wb.2.1.1.2.1 hwf (by omega) (by omega) (by omega) (by omega))
  by_cases h2 : (120 < (fb_ct (pT a) 120 : Nat) + (i2 : Int))
  · refine Eq.mpr (c_fill_f2 (s := i1) (m := i2) (d := i3) hb (by omega) (by omega) (by omega) (by omega) (by omega) (by omega)) ?_
    have wb := ww.bm
    exact WL_f wb (by omega) (by decide) (by omega) (fun Q => m_fill_f2 (s := i1) (m := i2) (d := i3) wb.2.1.1.1 wb.2.1.1.2.1 hwf (by omega) (by omega) (by omega) (by omega) (by omega) (by omega))
  refine c_fill_t (s := i1) (m := i2) (d := i3) hb (by omega) (by omega) (by omega) (fun σ1 b1 hF ho hb1 => WL_c (ww.chg ho hb1) (by omega) (fun σ' Q hi hQ => m_fill_t (s := i1) (m := i2) (d := i3) hi hwf (by omega) (by omega) (by omega) (fun σ2 b2 hF2 ho2 hz2 hi2 => by
    obtain rfl := FillR_uq _ _ _ _ _ hF hF2
    exact hQ σ2 ho2 hz2 hi2)))

theorem p_sample {L : Nat} {xs : Nat → Int32} {σ : St} (hw : WI L xs σ) (v1 v2 v3 : Int32) : Ex 264 [.ref 2, .int v1, .int v2, .int v3, .ref 1333] σ (PR L xs σ 193 [.ref 838, .int v1, .int v2, .int v3]) := by
  obtain ⟨a, n, hs, k, g, hc, hm, hl⟩ := hw
  obtain ⟨i1, rfl, r1⟩ := ivx v1
  obtain ⟨i2, rfl, r2⟩ := ivx v2
  obtain ⟨i3, rfl, r3⟩ := ivx v3
  have ww := WC.rf hc hm hl
  have hb := hc.1
  have hwf : WF a := hb.2.2.1
  have h481 := hm.2.1
  have hpM : pM a ≤ 4 := hwf.2.2.2.2.2.1
  have hn8 : n ≤ 8 := hm.1.2.2.1
  have hT120 := fb_ct_le (pT a) 120
  refine L_264 hb.1.1 ?_
  by_cases h1 : (i1 < 0 ∨ 8 ≤ i1)
  · refine Eq.mpr (c_sample_f1 (f := i1) (s := i2) (m := i3) hb (by omega) (by omega) (by omega) (by omega)) ?_
    have wb := ww.bm
    exact WL_f wb (by omega) (by decide) (by omega) (fun Q => m_sample_f1 (f := i1) (s := i2) (m := i3) wb.2.1.1.1 wb.2.1.1.2.1 hwf (by omega) (by omega) (by omega) (by omega))
  by_cases h2 : (i3 < 0 ∨ 120 < i3)
  · refine Eq.mpr (c_sample_f2 (f := i1) (s := i2) (m := i3) hb (by omega) (by omega) (by omega) (by omega) (by omega)) ?_
    have wb := ww.bm
    exact WL_f wb (by omega) (by decide) (by omega) (fun Q => m_sample_f2 (f := i1) (s := i2) (m := i3) wb.2.1.1.1 wb.2.1.1.2.1 hwf (by omega) (by omega) (by omega) (by omega) (by omega))
  refine c_sample_t (f := i1) (s := i2) (m := i3) hb (by omega) (by omega) (fun σ1 S1 hF ho hb1 => WL_c (ww.chg ho hb1) (by omega) (fun σ' Q hi hQ => m_sample_t (f := i1) (s := i2) (m := i3) hi hwf (by omega) (by omega) (fun σ2 S2 hF2 ho2 hz2 hi2 => by
    obtain rfl := SamR_uq _ _ _ _ _ _ hF hF2
    exact hQ σ2 ho2 hz2 hi2)))

theorem p_outermost {L : Nat} {xs : Nat → Int32} {σ : St} (hw : WI L xs σ) (v1 : Int32) {w : Int} (hw1 : w = 0 ∨ w = 1) : Ex 277 [.ref 2, .int v1, .int (iv w), .ref 1333] σ (PR L xs σ 209 [.ref 838, .int v1, .int (iv w)]) := by
  obtain ⟨a, n, hs, k, g, hc, hm, hl⟩ := hw
  obtain ⟨i1, rfl, r1⟩ := ivx v1
  have ww := WC.rf hc hm hl
  have hb := hc.1
  have hwf : WF a := hb.2.2.1
  have h481 := hm.2.1
  have hpM : pM a ≤ 4 := hwf.2.2.2.2.2.1
  have hn8 : n ≤ 8 := hm.1.2.2.1
  have hT120 := fb_ct_le (pT a) 120
  refine L_277 hb.1.1 ?_
  by_cases h1 : i1 < 0 ∨ 4 ≤ i1
  · refine Eq.mpr (c_outermost_f (c := i1) (w := w) hb (by first | omega | assumption) (by first | omega | assumption)) ?_
    have wb := ww.bm
    exact WL_f wb (by omega) (by decide) (by omega) (fun Q => m_outermost_f1 (c := i1) (w := w) wb.2.1.1.1 wb.2.1.1.2.1 hwf (by first | omega | assumption) (by first | omega | assumption) (by first | omega | assumption))
  by_cases h2 : outF (fun r => pV a r i1.toNat) w = 100
  · refine Eq.mpr (c_outermost_n (c := i1) (w := w) hb (by first | omega | assumption) (by first | omega | assumption) (by first | omega | assumption)) ?_
    have wb := ww.bm
    exact WL_g wb (by omega) (by decide) (by omega) (fun Q h => m_outermost_n (c := i1) (w := w) wb.2.1.1.1 wb.2.1.1.2.1 hwf (by first | omega | assumption) (by first | omega | assumption) (by first | omega | assumption) h)
  refine Eq.mpr (c_outermost_t (c := i1) (w := w) hb (by first | omega | assumption) (by first | omega | assumption) (by first | omega | assumption)) ?_
  exact WL_q ww (by omega) (fun σ' Q hi hg h => m_outermost_t (c := i1) (w := w) hi.1 hi.2.1 hwf (by first | omega | assumption) (by first | omega | assumption) (by first | omega | assumption) h)

theorem p_least {L : Nat} {xs : Nat → Int32} {σ : St} (hw : WI L xs σ) (v1 v2 v3 : Int32) : Ex 287 [.ref 2, .int v1, .int v2, .int v3, .ref 1333] σ (PR L xs σ 223 [.ref 838, .int v1, .int v2, .int v3]) := by
  obtain ⟨a, n, hs, k, g, hc, hm, hl⟩ := hw
  obtain ⟨i1, rfl, r1⟩ := ivx v1
  obtain ⟨i2, rfl, r2⟩ := ivx v2
  obtain ⟨i3, rfl, r3⟩ := ivx v3
  have ww := WC.rf hc hm hl
  have hb := hc.1
  have hwf : WF a := hb.2.2.1
  have h481 := hm.2.1
  have hpM : pM a ≤ 4 := hwf.2.2.2.2.2.1
  have hn8 : n ≤ 8 := hm.1.2.2.1
  have hT120 := fb_ct_le (pT a) 120
  refine L_287 hb.1.1 ?_
  by_cases h1 : (i1 < 0 ∨ 8 ≤ i1) ∨ (i2 < 0 ∨ 4 ≤ i2)
  · refine Eq.mpr (c_least_f (f := i1) (c := i2) (k := i3) hb (by omega) (by omega) (by omega)) ?_
    have wb := ww.bm
    exact WL_f wb (by omega) (by decide) (by omega) (fun Q => m_least_f1 (f := i1) (c := i2) (k := i3) wb.2.1.1.1 wb.2.1.1.2.1 hwf (by omega) (by omega) (by omega) (by omega))
  refine c_least_t (f := i1) (c := i2) (k := i3) hb (by omega) (by omega) (by omega) (fun σ1 v ho hv => WL_q (ww.scr ho) (by omega) (fun σ' Q hi hg h => m_least_t (f := i1) (c := i2) (k := i3) hi.1 hi.2.1 hwf (by omega) (by omega) (by omega) (fun v2 hv2 => by
    obtain rfl := LST_uq hv hv2
    exact h)))

theorem p_middle {L : Nat} {xs : Nat → Int32} {σ : St} (hw : WI L xs σ) (v1 v2 : Int32) : Ex 288 [.ref 2, .int v1, .int v2, .ref 1333] σ (PR L xs σ 224 [.ref 838, .int v1, .int v2]) := by
  obtain ⟨a, n, hs, k, g, hc, hm, hl⟩ := hw
  obtain ⟨i1, rfl, r1⟩ := ivx v1
  obtain ⟨i2, rfl, r2⟩ := ivx v2
  have ww := WC.rf hc hm hl
  have hb := hc.1
  have hwf : WF a := hb.2.2.1
  have h481 := hm.2.1
  have hpM : pM a ≤ 4 := hwf.2.2.2.2.2.1
  have hn8 : n ≤ 8 := hm.1.2.2.1
  have hT120 := fb_ct_le (pT a) 120
  refine L_288 hb.1.1 ?_
  by_cases h1 : (i1 < 0 ∨ 8 ≤ i1) ∨ (i2 < 0 ∨ 4 ≤ i2)
  · refine Eq.mpr (c_middle_f (f := i1) (c := i2) hb (by omega) (by omega) (by omega)) ?_
    have wb := ww.bm
    exact WL_f wb (by omega) (by decide) (by omega) (fun Q => m_middle_f1 (f := i1) (c := i2) wb.2.1.1.1 wb.2.1.1.2.1 hwf (by omega) (by omega) (by omega))
  refine c_middle_t (f := i1) (c := i2) hb (by omega) (by omega) (fun σ1 v ho hv => WL_q (ww.scr ho) (by omega) (fun σ' Q hi hg h => m_middle_t (f := i1) (c := i2) hi.1 hi.2.1 hwf (by omega) (by omega) (fun v2 hv2 => by
    obtain rfl := LST_uq hv hv2
    exact h)))

theorem p_top {L : Nat} {xs : Nat → Int32} {σ : St} (hw : WI L xs σ) (v1 v2 v3 : Int32) : Ex 289 [.ref 2, .int v1, .int v2, .int v3, .ref 1333] σ (PR L xs σ 225 [.ref 838, .int v1, .int v2, .int v3]) := by
  obtain ⟨a, n, hs, k, g, hc, hm, hl⟩ := hw
  obtain ⟨i1, rfl, r1⟩ := ivx v1
  obtain ⟨i2, rfl, r2⟩ := ivx v2
  obtain ⟨i3, rfl, r3⟩ := ivx v3
  have ww := WC.rf hc hm hl
  have hb := hc.1
  have hwf : WF a := hb.2.2.1
  have h481 := hm.2.1
  have hpM : pM a ≤ 4 := hwf.2.2.2.2.2.1
  have hn8 : n ≤ 8 := hm.1.2.2.1
  have hT120 := fb_ct_le (pT a) 120
  refine L_289 hb.1.1 ?_
  by_cases h1 : (i1 < 0 ∨ 8 ≤ i1) ∨ (i2 < 0 ∨ 4 ≤ i2)
  · refine Eq.mpr (c_top_f (f := i1) (c := i2) (k := i3) hb (by omega) (by omega) (by omega)) ?_
    have wb := ww.bm
    exact WL_f wb (by omega) (by decide) (by omega) (fun Q => m_top_f1 (f := i1) (c := i2) (k := i3) wb.2.1.1.1 wb.2.1.1.2.1 hwf (by omega) (by omega) (by omega) (by omega))
  refine c_top_t (f := i1) (c := i2) (k := i3) hb (by omega) (by omega) (by omega) (fun h0 => WL_q ww (by omega) (fun σ' Q hi hg h => m_top_t (f := i1) (c := i2) (k := i3) hi.1 hi.2.1 hwf (by omega) (by omega) (by omega) (fun x hx => by
    obtain rfl := TOPR_uq hx (Or.inl ⟨h0, rfl⟩)
    exact h))) (fun h0 h3 σ1 v ho hv => WL_q (ww.scr ho) (by omega) (fun σ' Q hi hg h => m_top_t (f := i1) (c := i2) (k := i3) hi.1 hi.2.1 hwf (by omega) (by omega) (by omega) (fun x hx => by
    obtain rfl := TOPR_uq hx (Or.inr ⟨h0, h3, v, hv, rfl⟩)
    exact h)))

theorem p_runAt {L : Nat} {xs : Nat → Int32} {σ : St} (hw : WI L xs σ) (v1 v2 : Int32) {w : Int} (hw1 : w = 0 ∨ w = 1) : Ex 295 [.ref 2, .int v1, .int v2, .int (iv w), .ref 1333] σ (PR L xs σ 235 [.ref 838, .int v1, .int v2, .int (iv w)]) := by
  obtain ⟨a, n, hs, k, g, hc, hm, hl⟩ := hw
  obtain ⟨i1, rfl, r1⟩ := ivx v1
  obtain ⟨i2, rfl, r2⟩ := ivx v2
  have ww := WC.rf hc hm hl
  have hb := hc.1
  have hwf : WF a := hb.2.2.1
  have h481 := hm.2.1
  have hpM : pM a ≤ 4 := hwf.2.2.2.2.2.1
  have hn8 : n ≤ 8 := hm.1.2.2.1
  have hT120 := fb_ct_le (pT a) 120
  refine L_295 hb.1.1 ?_
  by_cases h1 : i1 < 0 ∨ 4 ≤ i1
  · refine Eq.mpr (c_runAt_f1 (p := i1) (k := i2) (w := w) hb (by omega) (by omega)) ?_
    have wb := ww.bm
    exact WL_f wb (by omega) (by decide) (by omega) (fun Q => m_runAt_f1 (p := i1) (k := i2) (w := w) wb.2.1.1.1 wb.2.1.1.2.1 hwf (by omega) (by omega))
  by_cases h2 : i2 < 0 ∨ (fb_ct (rst (pP a i1.toNat)) 120 : Nat) ≤ i2
  · refine Eq.mpr (c_runAt_f2 (p := i1) (k := i2) (w := w) hb (by omega) (by omega) (by omega)) ?_
    have wb := (ww.scr (σ2 := pS σ 221 (rst (pP a i1.toNat))) ((OF.rf hb.2.1).st (by unfold sc; omega) _)).bm
    exact WL_f wb (by omega) (by decide) (by omega) (fun Q => m_runAt_f2 (p := i1) (k := i2) (w := w) wb.2.1.1.1 wb.2.1.1.2.1 hwf (by omega) (by omega) (by omega))
  refine c_runAt_t (p := i1) (k := i2) (w := w) hb (by omega) (by omega) (by omega) (fun F => WL_q (ww.scr (σ2 := pS σ 221 F) ((OF.rf hb.2.1).st (by unfold sc; omega) _)) (by omega) (fun σ' Q hi hg h => m_runAt_t (p := i1) (k := i2) (w := w) hi.1 hi.2.1 hwf (by omega) (by omega) (by omega) h))

theorem p_conditionAt {L : Nat} {xs : Nat → Int32} {σ : St} (hw : WI L xs σ) (v1 v2 : Int32) : Ex 297 [.ref 2, .int v1, .int v2, .ref 1333] σ (PR L xs σ 242 [.ref 838, .int v1, .int v2]) := by
  obtain ⟨a, n, hs, k, g, hc, hm, hl⟩ := hw
  obtain ⟨i1, rfl, r1⟩ := ivx v1
  obtain ⟨i2, rfl, r2⟩ := ivx v2
  have ww := WC.rf hc hm hl
  have hb := hc.1
  have hwf : WF a := hb.2.2.1
  have h481 := hm.2.1
  have hpM : pM a ≤ 4 := hwf.2.2.2.2.2.1
  have hn8 : n ≤ 8 := hm.1.2.2.1
  have hT120 := fb_ct_le (pT a) 120
  refine L_297 hb.1.1 ?_
  by_cases h1 : (i1 < 0 ∨ (pM a : Int) ≤ i1)
  · refine Eq.mpr (c_conditionAt_f1 (k := i1) (w := i2) hb (by omega) (by omega) (by omega)) ?_
    have wb := ww.bm
    exact WL_f wb (by omega) (by decide) (by omega) (fun Q => m_conditionAt_f1 (k := i1) (w := i2) wb.2.1.1.1 wb.2.1.1.2.1 hwf (by omega) (by omega) (by omega))
  by_cases h2 : (i2 < 0 ∨ 5 < i2)
  · refine Eq.mpr (c_conditionAt_f2 (k := i1) (w := i2) hb (by omega) (by omega) (by omega) (by omega)) ?_
    have wb := ww.bm
    exact WL_f wb (by omega) (by decide) (by omega) (fun Q => m_conditionAt_f2 (k := i1) (w := i2) wb.2.1.1.1 wb.2.1.1.2.1 hwf (by omega) (by omega) (by omega) (by omega))
  refine c_conditionAt_t (k := i1) (w := i2) hb (by omega) (by omega) (fun σ1 ho => WL_q (ww.scr ho) (by omega) (fun σ' Q hi hg h => Eq.mpr (m_conditionAt_t (k := i1) (w := i2) hi.1 hi.2.1 hwf (by omega) (by omega)) h))

