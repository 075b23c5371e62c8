/-! CLASS AND MODEL ALIKE: looks -/
theorem p_values {L : Nat} {xs : Nat → Int32} {σ : St} (hw : WI L xs σ) (v1 : Int32) : Ex 276 [.ref 2, .int v1, .ref 1333] σ (PR L xs σ 208 [.ref 838, .int v1]) := by
  obtain ⟨a, n, hs, k, g, hc, hm, hl⟩ := hw
  obtain ⟨i1, rfl, r1⟩ := ivx v1
  have ww := WC.rf hc hm hl
  have hb := hc.1
  have hwf : WF a := hb.2.2.1
  have h481 := hm.2.1
  have hpM : pM a ≤ 4 := hwf.2.2.2.2.2.1
  have hn8 : n ≤ 8 := hm.1.2.2.1
  have hT120 := fb_ct_le (pT a) 120
  refine L_276 hb.1.1 ?_
  by_cases h1 : i1 < 0 ∨ 4 ≤ i1
  · refine Eq.mpr (c_values_f (c := i1) hb (by omega) (by omega)) ?_
    have wb := ww.bm
    exact WL_f wb (by omega) (by decide) (by omega) (fun Q => m_values_f1 (c := i1) wb.2.1.1.1 wb.2.1.1.2.1 hwf (by omega) (by omega))
  refine Eq.mpr (c_values_t (c := i1) hb (by omega) (by omega)) ?_
  exact WL_q ww (by omega) (fun σ' Q hi hg h => Eq.mpr (m_values_t (c := i1) hi.1 hi.2.1 hwf (by omega)) h)

theorem p_has {L : Nat} {xs : Nat → Int32} {σ : St} (hw : WI L xs σ) (v1 v2 : Int32) : Ex 282 [.ref 2, .int v1, .int v2, .ref 1333] σ (PRb L xs σ 214 [.ref 838, .int v1, .int v2]) := by
  obtain ⟨a, n, hs, k, g, hc, hm, hl⟩ := hw
  obtain ⟨i1, rfl, r1⟩ := ivx v1
  obtain ⟨i2, rfl, r2⟩ := ivx v2
  have ww := WC.rf hc hm hl
  have hb := hc.1
  have hwf : WF a := hb.2.2.1
  have h481 := hm.2.1
  have hpM : pM a ≤ 4 := hwf.2.2.2.2.2.1
  have hn8 : n ≤ 8 := hm.1.2.2.1
  have hT120 := fb_ct_le (pT a) 120
  refine L_282 hb.1.1 ?_
  by_cases h1 : (i1 < 0 ∨ 8 ≤ i1) ∨ i2 < 0
  · refine Eq.mpr (c_has_f (f := i1) (i := i2) hb (by omega) (by omega) (by omega)) ?_
    have wb := ww.bm
    exact WLb_f wb (by omega) (by decide) (by omega) (fun Q => m_has_f1 (f := i1) (i := i2) wb.2.1.1.1 wb.2.1.1.2.1 hwf (by omega) (by omega) (by omega))
  refine Eq.mpr (c_has_t (f := i1) (i := i2) hb (by omega) (by omega) (by omega)) ?_
  exact WLb_q ww (by omega) (fun σ' Q hi hg h => Eq.mpr (m_has_t (f := i1) (i := i2) hi.1 hi.2.1 hwf (by omega) (by omega)) h)

theorem p_countIn {L : Nat} {xs : Nat → Int32} {σ : St} (hw : WI L xs σ) (v1 v2 v3 : Int32) : Ex 281 [.ref 2, .int v1, .int v2, .int v3, .ref 1333] σ (PR L xs σ 213 [.ref 838, .int v1, .int v2, .int v3]) := by
  obtain ⟨a, n, hs, k, g, hc, hm, hl⟩ := hw
  obtain ⟨i1, rfl, r1⟩ := ivx v1
  obtain ⟨i2, rfl, r2⟩ := ivx v2
  obtain ⟨i3, rfl, r3⟩ := ivx v3
  have ww := WC.rf hc hm hl
  have hb := hc.1
  have hwf : WF a := hb.2.2.1
  have h481 := hm.2.1
  have hpM : pM a ≤ 4 := hwf.2.2.2.2.2.1
  have hn8 : n ≤ 8 := hm.1.2.2.1
  have hT120 := fb_ct_le (pT a) 120
  refine L_281 hb.1.1 ?_
  by_cases h1 : (i1 < 0 ∨ 8 ≤ i1) ∨ i2 < 0 ∨ i3 < 0 ∨ i3 < i2
  · refine Eq.mpr (c_countIn_f (f := i1) (i := i2) (j := i3) hb (by omega) (by omega) (by omega) (by omega)) ?_
    have wb := ww.bm
    exact WL_f wb (by omega) (by decide) (by omega) (fun Q => m_countIn_f1 (f := i1) (i := i2) (j := i3) wb.2.1.1.1 wb.2.1.1.2.1 hwf (by omega) (by omega) (by omega) (by omega))
  refine Eq.mpr (c_countIn_t (f := i1) (i := i2) (j := i3) hb (by omega) (by omega) (by omega) (by omega)) ?_
  exact WL_q ww (by omega) (fun σ' Q hi hg h => Eq.mpr (m_countIn_t (f := i1) (fr := i2) (to := i3) hi.1 hi.2.1 (by omega) (by omega)) h)

theorem p_sum {L : Nat} {xs : Nat → Int32} {σ : St} (hw : WI L xs σ) (v1 v2 : Int32) : Ex 286 [.ref 2, .int v1, .int v2, .ref 1333] σ (PR L xs σ 222 [.ref 838, .int v1, .int v2]) := by
  obtain ⟨a, n, hs, k, g, hc, hm, hl⟩ := hw
  obtain ⟨i1, rfl, r1⟩ := ivx v1
  obtain ⟨i2, rfl, r2⟩ := ivx v2
  have ww := WC.rf hc hm hl
  have hb := hc.1
  have hwf : WF a := hb.2.2.1
  have h481 := hm.2.1
  have hpM : pM a ≤ 4 := hwf.2.2.2.2.2.1
  have hn8 : n ≤ 8 := hm.1.2.2.1
  have hT120 := fb_ct_le (pT a) 120
  refine L_286 hb.1.1 ?_
  by_cases h1 : (i1 < 0 ∨ 8 ≤ i1) ∨ (i2 < 0 ∨ 4 ≤ i2)
  · refine Eq.mpr (c_sum_f (f := i1) (c := i2) hb (by omega) (by omega) (by omega)) ?_
    have wb := ww.bm
    exact WL_f wb (by omega) (by decide) (by omega) (fun Q => m_sum_f1 (f := i1) (c := i2) wb.2.1.1.1 wb.2.1.1.2.1 hwf (by omega) (by omega) (by omega))
  refine Eq.mpr (c_sum_t (f := i1) (c := i2) hb (by omega) (by omega) (by omega)) ?_
  exact WL_q ww (by omega) (fun σ' Q hi hg h => Eq.mpr (m_sum_t (f := i1) (c := i2) hi.1 hi.2.1 hwf (by omega) (by omega)) h)

theorem p_unlike {L : Nat} {xs : Nat → Int32} {σ : St} (hw : WI L xs σ) (v1 v2 : Int32) : Ex 290 [.ref 2, .int v1, .int v2, .ref 1333] σ (PR L xs σ 226 [.ref 838, .int v1, .int v2]) := by
  obtain ⟨a, n, hs, k, g, hc, hm, hl⟩ := hw
  obtain ⟨i1, rfl, r1⟩ := ivx v1
  obtain ⟨i2, rfl, r2⟩ := ivx v2
  have ww := WC.rf hc hm hl
  have hb := hc.1
  have hwf : WF a := hb.2.2.1
  have h481 := hm.2.1
  have hpM : pM a ≤ 4 := hwf.2.2.2.2.2.1
  have hn8 : n ≤ 8 := hm.1.2.2.1
  have hT120 := fb_ct_le (pT a) 120
  refine L_290 hb.1.1 ?_
  by_cases h1 : (i1 < 0 ∨ 8 ≤ i1) ∨ (i2 < 0 ∨ 4 ≤ i2)
  · refine Eq.mpr (c_unlike_f (f := i1) (c := i2) hb (by omega) (by omega) (by omega)) ?_
    have wb := ww.bm
    exact WL_f wb (by omega) (by decide) (by omega) (fun Q => m_unlike_f1 (f := i1) (c := i2) wb.2.1.1.1 wb.2.1.1.2.1 hwf (by omega) (by omega) (by omega))
  refine Eq.mpr (c_unlike_t (f := i1) (c := i2) hb (by omega) (by omega) (by omega)) ?_
  exact WL_q ww (by omega) (fun σ' Q hi hg h => Eq.mpr (m_unlike_t (f := i1) (c := i2) hi.1 hi.2.1 hwf (by omega) (by omega)) h)

theorem p_relation {L : Nat} {xs : Nat → Int32} {σ : St} (hw : WI L xs σ) (v1 v2 : Int32) : Ex 284 [.ref 2, .int v1, .int v2, .ref 1333] σ (PR L xs σ 216 [.ref 838, .int v1, .int v2]) := by
  obtain ⟨a, n, hs, k, g, hc, hm, hl⟩ := hw
  obtain ⟨i1, rfl, r1⟩ := ivx v1
  obtain ⟨i2, rfl, r2⟩ := ivx v2
  have ww := WC.rf hc hm hl
  have hb := hc.1
  have hwf : WF a := hb.2.2.1
  have h481 := hm.2.1
  have hpM : pM a ≤ 4 := hwf.2.2.2.2.2.1
  have hn8 : n ≤ 8 := hm.1.2.2.1
  have hT120 := fb_ct_le (pT a) 120
  refine L_284 hb.1.1 ?_
  by_cases h1 : (i1 < 0 ∨ 8 ≤ i1) ∨ (i2 < 0 ∨ 8 ≤ i2)
  · refine Eq.mpr (c_relation_f (f := i1) (g := i2) hb (by omega) (by omega) (by omega)) ?_
    have wb := ww.bm
    exact WL_f wb (by omega) (by decide) (by omega) (fun Q => m_relation_f1 (f := i1) (g := i2) wb.2.1.1.1 wb.2.1.1.2.1 hwf (by omega) (by omega) (by omega))
  refine Eq.mpr (c_relation_t (f := i1) (g := i2) hb (by omega) (by omega)) ?_
  exact WL_q ww (by omega) (fun σ' Q hi hg h => Eq.mpr (m_relation_t (f := i1) (g := i2) hi.1 hi.2.1 (by omega) (by omega)) h)

theorem p_union {L : Nat} {xs : Nat → Int32} {σ : St} (hw : WI L xs σ) (v1 v2 v3 : Int32) : Ex 285 [.ref 2, .int v1, .int v2, .int v3, .ref 1333] σ (PR L xs σ 217 [.ref 838, .int v1, .int v2, .int v3]) := by
  obtain ⟨a, n, hs, k, g, hc, hm, hl⟩ := hw
  obtain ⟨i1, rfl, r1⟩ := ivx v1
  obtain ⟨i2, rfl, r2⟩ := ivx v2
  obtain ⟨i3, rfl, r3⟩ := ivx v3
  have ww := WC.rf hc hm hl
  have hb := hc.1
  have hwf : WF a := hb.2.2.1
  have h481 := hm.2.1
  have hpM : pM a ≤ 4 := hwf.2.2.2.2.2.1
  have hn8 : n ≤ 8 := hm.1.2.2.1
  have hT120 := fb_ct_le (pT a) 120
  refine L_285 hb.1.1 ?_
  by_cases h1 : (i1 < 0 ∨ 8 ≤ i1) ∨ (i2 < 0 ∨ 8 ≤ i2) ∨ (i3 < 0 ∨ 8 ≤ i3)
  · refine Eq.mpr (c_union_f (f := i1) (g := i2) (k := i3) hb (by omega) (by omega) (by omega) (by omega)) ?_
    have wb := ww.bm
    exact WL_f wb (by omega) (by decide) (by omega) (fun Q => m_union_f1 (f := i1) (g := i2) (k := i3) wb.2.1.1.1 wb.2.1.1.2.1 hwf (by omega) (by omega) (by omega) (by omega))
  refine Eq.mpr (c_union_t (f := i1) (g := i2) (k := i3) hb (by omega) (by omega) (by omega)) ?_
  exact WL_q (ww.scr (σ2 := pS σ 221 _) ((OF.rf hb.2.1).st (by unfold sc; omega) _)) (by omega) (fun σ' Q hi hg h => Eq.mpr (m_union_t (f := i1) (g := i2) (k := i3) hi.1 hi.2.1 (by omega) (by omega) (by omega)) h)

theorem p_join {L : Nat} {xs : Nat → Int32} {σ : St} (hw : WI L xs σ) (v1 v2 v3 v4 : Int32) : Ex 291 [.ref 2, .int v1, .int v2, .int v3, .int v4, .ref 1333] σ (PR L xs σ 227 [.ref 838, .int v1, .int v2, .int v3, .int v4]) := by
  obtain ⟨a, n, hs, k, g, hc, hm, hl⟩ := hw
  obtain ⟨i1, rfl, r1⟩ := ivx v1
  obtain ⟨i2, rfl, r2⟩ := ivx v2
  obtain ⟨i3, rfl, r3⟩ := ivx v3
  obtain ⟨i4, rfl, r4⟩ := ivx v4
  have ww := WC.rf hc hm hl
  have hb := hc.1
  have hwf : WF a := hb.2.2.1
  have h481 := hm.2.1
  have hpM : pM a ≤ 4 := hwf.2.2.2.2.2.1
  have hn8 : n ≤ 8 := hm.1.2.2.1
  have hT120 := fb_ct_le (pT a) 120
  refine L_291 hb.1.1 ?_
  by_cases h1 : (i1 < 0 ∨ 4 ≤ i1) ∨ (i2 < 0 ∨ 8 ≤ i2) ∨ (i3 < 0 ∨ 4 ≤ i3) ∨ (i4 < 0 ∨ 8 ≤ i4)
  · refine Eq.mpr (c_join_f (c := i1) (f := i2) (d := i3) (g := i4) hb (by omega) (by omega) (by omega) (by omega) (by omega)) ?_
    have wb := ww.bm
    exact WL_f wb (by omega) (by decide) (by omega) (fun Q => m_join_f1 (c := i1) (f := i2) (d := i3) (g := i4) wb.2.1.1.1 wb.2.1.1.2.1 hwf (by omega) (by omega) (by omega) (by omega) (by omega))
  refine Eq.mpr (c_join_t (c := i1) (f := i2) (d := i3) (g := i4) hb (by omega) (by omega) (by omega) (by omega)) ?_
  exact WL_q ww (by omega) (fun σ' Q hi hg h => Eq.mpr (m_join_t (c := i1) (f := i2) (d := i3) (g := i4) hi.1 hi.2.1 hwf (by omega) (by omega) (by omega) (by omega)) h)

theorem p_hasPacked {L : Nat} {xs : Nat → Int32} {σ : St} (hw : WI L xs σ) (v1 v2 : Int32) : Ex 296 [.ref 2, .int v1, .int v2, .ref 1333] σ (PRb L xs σ 236 [.ref 838, .int v1, .int v2]) := by
  obtain ⟨a, n, hs, k, g, hc, hm, hl⟩ := hw
  obtain ⟨i1, rfl, r1⟩ := ivx v1
  obtain ⟨i2, rfl, r2⟩ := ivx v2
  have ww := WC.rf hc hm hl
  have hb := hc.1
  have hwf : WF a := hb.2.2.1
  have h481 := hm.2.1
  have hpM : pM a ≤ 4 := hwf.2.2.2.2.2.1
  have hn8 : n ≤ 8 := hm.1.2.2.1
  have hT120 := fb_ct_le (pT a) 120
  refine L_296 hb.1.1 ?_
  by_cases h1 : i1 < 0 ∨ 4 ≤ i1
  · refine Eq.mpr (c_hasPacked_f (p := i1) (i := i2) hb (by omega) (by omega)) ?_
    have wb := ww.bm
    exact WLb_f wb (by omega) (by decide) (by omega) (fun Q => m_hasPacked_f1 (p := i1) (i := i2) wb.2.1.1.1 wb.2.1.1.2.1 hwf (by omega) (by omega) (by omega))
  refine Eq.mpr (c_hasPacked_t (p := i1) (i := i2) hb (by omega) (by omega)) ?_
  exact WLb_q ww (by omega) (fun σ' Q hi hg h => Eq.mpr (m_hasPacked_t (p := i1) (i := i2) hi.1 hi.2.1 hwf (by omega) (by omega)) h)

theorem p_runs {L : Nat} {xs : Nat → Int32} {σ : St} (hw : WI L xs σ) (v1 : Int32) : Ex 294 [.ref 2, .int v1, .ref 1333] σ (PR L xs σ 234 [.ref 838, .int v1]) := by
  obtain ⟨a, n, hs, k, g, hc, hm, hl⟩ := hw
  obtain ⟨i1, rfl, r1⟩ := ivx v1
  have ww := WC.rf hc hm hl
  have hb := hc.1
  have hwf : WF a := hb.2.2.1
  have h481 := hm.2.1
  have hpM : pM a ≤ 4 := hwf.2.2.2.2.2.1
  have hn8 : n ≤ 8 := hm.1.2.2.1
  have hT120 := fb_ct_le (pT a) 120
  refine L_294 hb.1.1 ?_
  by_cases h1 : i1 < 0 ∨ 4 ≤ i1
  · refine Eq.mpr (c_runs_f (p := i1) hb (by omega) (by omega)) ?_
    have wb := ww.bm
    exact WL_f wb (by omega) (by decide) (by omega) (fun Q => m_runs_f1 (p := i1) wb.2.1.1.1 wb.2.1.1.2.1 hwf (by omega) (by omega))
  refine Eq.mpr (c_runs_t (p := i1) hb (by omega)) ?_
  exact WL_q (ww.scr (σ2 := pS σ 221 _) ((OF.rf hb.2.1).st (by unfold sc; omega) _)) (by omega) (fun σ' Q hi hg h => Eq.mpr (m_runs_t (p := i1) hi.1 hi.2.1 hwf (by omega) (by omega)) h)

theorem p_cost {L : Nat} {xs : Nat → Int32} {σ : St} (hw : WI L xs σ) (v1 v2 : Int32) : Ex 298 [.ref 2, .int v1, .int v2, .ref 1333] σ (PR L xs σ 243 [.ref 838, .int v1, .int v2]) := by
  obtain ⟨a, n, hs, k, g, hc, hm, hl⟩ := hw
  obtain ⟨i1, rfl, r1⟩ := ivx v1
  obtain ⟨i2, rfl, r2⟩ := ivx v2
  have ww := WC.rf hc hm hl
  have hb := hc.1
  have hwf : WF a := hb.2.2.1
  have h481 := hm.2.1
  have hpM : pM a ≤ 4 := hwf.2.2.2.2.2.1
  have hn8 : n ≤ 8 := hm.1.2.2.1
  have hT120 := fb_ct_le (pT a) 120
  refine L_298 hb.1.1 ?_
  by_cases h1 : (i1 < 0 ∨ (pM a : Int) ≤ i1)
  · refine Eq.mpr (c_cost_f1 (k := i1) (w := i2) hb (by omega) (by omega) (by omega)) ?_
    have wb := ww.bm
    exact WL_f wb (by omega) (by decide) (by omega) (fun Q => m_cost_f1 (k := i1) (w := i2) wb.2.1.1.1 wb.2.1.1.2.1 hwf (by omega) (by omega) (by omega))
  by_cases h2 : (i2 < 0 ∨ 2 < i2)
  · refine Eq.mpr (c_cost_f2 (k := i1) (w := i2) hb (by omega) (by omega) (by omega) (by omega)) ?_
    have wb := ww.bm
    exact WL_f wb (by omega) (by decide) (by omega) (fun Q => m_cost_f2 (k := i1) (w := i2) wb.2.1.1.1 wb.2.1.1.2.1 hwf (by omega) (by omega) (by omega) (by omega))
  refine Eq.mpr (c_cost_t (k := i1) (w := i2) hb (by omega) (by omega)) ?_
  exact WL_q ww (by omega) (fun σ' Q hi hg h => Eq.mpr (m_cost_t (k := i1) (w := i2) hi.1 hi.2.1 hwf (by omega) (by omega) (by omega)) h)

theorem p_kept {L : Nat} {xs : Nat → Int32} {σ : St} (hw : WI L xs σ) (v1 v2 v3 : Int32) : Ex 279 [.ref 2, .int v1, .int v2, .int v3, .ref 1333] σ (PR L xs σ 211 [.ref 838, .int v1, .int v2, .int v3]) := by
  obtain ⟨a, n, hs, k, g, hc, hm, hl⟩ := hw
  obtain ⟨i1, rfl, r1⟩ := ivx v1
  obtain ⟨i2, rfl, r2⟩ := ivx v2
  obtain ⟨i3, rfl, r3⟩ := ivx v3
  have ww := WC.rf hc hm hl
  have hb := hc.1
  have hwf : WF a := hb.2.2.1
  have h481 := hm.2.1
  have hpM : pM a ≤ 4 := hwf.2.2.2.2.2.1
  have hn8 : n ≤ 8 := hm.1.2.2.1
  have hT120 := fb_ct_le (pT a) 120
  refine L_279 hb.1.1 ?_
  by_cases h1 : i1 < 0 ∨ 4 ≤ i1
  · refine Eq.mpr (c_kept_f1 (c := i1) (w := i2) (k := i3) hb (by omega) (by omega)) ?_
    have wb := ww.bm
    exact WL_f wb (by omega) (by decide) (by omega) (fun Q => m_kept_f1 (c := i1) (w := i2) (k := i3) wb.2.1.1.1 wb.2.1.1.2.1 (by omega) (by omega) (by omega) (by omega))
  by_cases h2 : (i2 < 0 ∨ 2 < i2) ∨ (i2 = 0 ∧ (i3 < -64 ∨ 63 < i3)) ∨ (0 < i2 ∧ (i3 < 0 ∨ 7 < i3))
  · refine Eq.mpr (c_kept_f2 (c := i1) (w := i2) (k := i3) hb (by omega) (by omega) (by omega) (by omega)) ?_
    have wb := ww.bm
    exact WL_f wb (by omega) (by decide) (by omega) (fun Q => m_kept_f2 (c := i1) (w := i2) (k := i3) wb.2.1.1.1 wb.2.1.1.2.1 (by omega) (by omega) (by omega) (by omega))
  refine Eq.mpr (c_kept_t (c := i1) (w := i2) (k := i3) hb (by omega) (by omega) (by omega)) ?_
  exact WL_q ww (by omega) (fun σ' Q hi hg h => Eq.mpr (m_kept_t (c := i1) (w := i2) (k := i3) hi.1 hi.2.1 hwf (by omega) (by omega) (by omega)) h)

theorem p_beside {L : Nat} {xs : Nat → Int32} {σ : St} (hw : WI L xs σ) (v1 v2 : Int32) {w : Int} (hw1 : w = 0 ∨ w = 1) : Ex 278 [.ref 2, .int v1, .int v2, .int (iv w), .ref 1333] σ (PR L xs σ 210 [.ref 838, .int v1, .int v2, .int (iv w)]) := by
  obtain ⟨a, n, hs, k, g, hc, hm, hl⟩ := hw
  obtain ⟨i1, rfl, r1⟩ := ivx v1
  obtain ⟨i2, rfl, r2⟩ := ivx v2
  have ww := WC.rf hc hm hl
  have hb := hc.1
  have hwf : WF a := hb.2.2.1
  have h481 := hm.2.1
  have hpM : pM a ≤ 4 := hwf.2.2.2.2.2.1
  have hn8 : n ≤ 8 := hm.1.2.2.1
  have hT120 := fb_ct_le (pT a) 120
  refine L_278 hb.1.1 ?_
  by_cases h1 : i1 < 0 ∨ 4 ≤ i1
  · refine Eq.mpr (c_beside_f (c := i1) (u := i2) (w := w) hb (by omega) (by omega)) ?_
    have wb := ww.bm
    exact WL_f wb (by omega) (by decide) (by omega) (fun Q => m_beside_f1 (c := i1) (u := i2) (w := w) wb.2.1.1.1 wb.2.1.1.2.1 hwf (by omega) (by omega) (by omega) (by omega))
  refine Eq.mpr (c_beside_t (c := i1) (u := i2) (w := w) hb (by omega) (by omega) (by omega)) ?_
  exact WL_q ww (by omega) (fun σ' Q hi hg h => m_beside_t (c := i1) (u := i2) (w := w) hi.1 hi.2.1 hwf (by omega) (by omega) (by omega) h)

theorem p_next {L : Nat} {xs : Nat → Int32} {σ : St} (hw : WI L xs σ) (v1 v2 : Int32) {w : Int} (hw1 : w = 0 ∨ w = 1) : Ex 283 [.ref 2, .int v1, .int v2, .int (iv w), .ref 1333] σ (PR L xs σ 215 [.ref 838, .int v1, .int v2, .int (iv w)]) := by
  obtain ⟨a, n, hs, k, g, hc, hm, hl⟩ := hw
  obtain ⟨i1, rfl, r1⟩ := ivx v1
  obtain ⟨i2, rfl, r2⟩ := ivx v2
  have ww := WC.rf hc hm hl
  have hb := hc.1
  have hwf : WF a := hb.2.2.1
  have h481 := hm.2.1
  have hpM : pM a ≤ 4 := hwf.2.2.2.2.2.1
  have hn8 : n ≤ 8 := hm.1.2.2.1
  have hT120 := fb_ct_le (pT a) 120
  refine L_283 hb.1.1 ?_
  by_cases h1 : (i1 < 0 ∨ 8 ≤ i1) ∨ i2 < 0
  · refine Eq.mpr (c_next_f (f := i1) (i := i2) (w := w) hb (by omega) (by omega) (by omega)) ?_
    have wb := ww.bm
    exact WL_f wb (by omega) (by decide) (by omega) (fun Q => m_next_f1 (f := i1) (i := i2) (w := w) wb.2.1.1.1 wb.2.1.1.2.1 hwf (by omega) (by omega) (by omega) (by omega))
  refine Eq.mpr (c_next_t (f := i1) (i := i2) (w := w) hb (by omega) (by omega) (by omega)) ?_
  exact WL_q ww (by omega) (fun σ' Q hi hg h => Eq.mpr (m_next_t (f := i1) (i := i2) (w := w) hi.1 hi.2.1 hwf (by omega) (by omega) (by omega)) h)

theorem p_groupAt {L : Nat} {xs : Nat → Int32} {σ : St} (hw : WI L xs σ) (v1 v2 : Int32) : Ex 293 [.ref 2, .int v1, .int v2, .ref 1333] σ (PR L xs σ 231 [.ref 838, .int v1, .int v2]) := by
  obtain ⟨a, n, hs, k, g, hc, hm, hl⟩ := hw
  obtain ⟨i1, rfl, r1⟩ := ivx v1
  obtain ⟨i2, rfl, r2⟩ := ivx v2
  have ww := WC.rf hc hm hl
  have hb := hc.1
  have hwf : WF a := hb.2.2.1
  have h481 := hm.2.1
  have hpM : pM a ≤ 4 := hwf.2.2.2.2.2.1
  have hn8 : n ≤ 8 := hm.1.2.2.1
  have hT120 := fb_ct_le (pT a) 120
  refine L_293 hb.1.1 ?_
  by_cases h1 : i1 < 0 ∨ k ≤ i1
  · refine Eq.mpr (c_groupAt_f1 (i := i1) (k := i2) hb hc.2.1 hc.2.2.1 (by omega) (by omega) (by omega)) ?_
    have wb := ww.bm
    exact WL_f wb (by omega) (by decide) (by omega) (fun Q => m_groupAt_f1 (i := i1) (k := i2) wb.2.1.1.1 wb.2.1.2 (by omega) (by omega))
  by_cases h2 : i2 < 0 ∨ 4 < i2
  · refine Eq.mpr (c_groupAt_f2 (i := i1) (k := i2) hb hc.2.1 hc.2.2.1 (by omega) (by omega) (by omega) (by omega)) ?_
    have wb := ww.bm
    exact WL_f wb (by omega) (by decide) (by omega) (fun Q => m_groupAt_f2 (i := i1) (k := i2) wb.2.1.1.1 wb.2.1.2 (by omega) (by omega) (by omega))
  refine Eq.mpr (c_groupAt_t (i := i1) (k := i2) hb hc.2.1 hc.2.2.1 (by omega) (by omega) (by omega)) ?_
  exact WL_q ww (by omega) (fun σ' Q hi hg h => Eq.mpr (m_groupAt_t (i := i1) (k := i2) hi.1 hg (by omega) (by omega)) h)

theorem p_valueAt {L : Nat} {xs : Nat → Int32} {σ : St} (hw : WI L xs σ) (v1 v2 : Int32) : Ex 275 [.ref 2, .int v1, .int v2, .ref 1333] σ (PR L xs σ 207 [.ref 838, .int v1, .int v2]) := by
  obtain ⟨a, n, hs, k, g, hc, hm, hl⟩ := hw
  obtain ⟨i1, rfl, r1⟩ := ivx v1
  obtain ⟨i2, rfl, r2⟩ := ivx v2
  have ww := WC.rf hc hm hl
  have hb := hc.1
  have hwf : WF a := hb.2.2.1
  have h481 := hm.2.1
  have hpM : pM a ≤ 4 := hwf.2.2.2.2.2.1
  have hn8 : n ≤ 8 := hm.1.2.2.1
  have hT120 := fb_ct_le (pT a) 120
  refine L_275 hb.1.1 ?_
  cases hT : pT a i1.toNat
  · refine Eq.mpr (c_valueAt_f (r := i1) (c := i2) hb (by first | omega | assumption | (simp [hT]; done) | (simp [hT]; omega)) (by first | omega | assumption | (simp [hT]; done) | (simp [hT]; omega)) (by first | omega | assumption | (simp [hT]; done) | (simp [hT]; omega))) ?_
    have wb := ww.bm
    exact WL_f wb (by omega) (by decide) (by omega) (fun Q => m_valueAt_f1 (r := i1) (c := i2) wb.2.1.1.1 wb.2.1.1.2.1 hwf (by first | omega | assumption | (simp [hT]; done) | (simp [hT]; omega)) (by first | omega | assumption | (simp [hT]; done) | (simp [hT]; omega)) (by first | omega | assumption | (simp [hT]; done) | (simp [hT]; omega)))
  have hT9 : i1.toNat < 120 := by
    refine Nat.lt_of_not_le (fun h => ?_)
    rw [hwf.1 _ h] at hT
    exact Bool.noConfusion hT
  by_cases h1 : i1 < 0 ∨ 119 < i1 ∨ i2 < 0 ∨ 4 ≤ i2
  · refine Eq.mpr (c_valueAt_f (r := i1) (c := i2) hb (by first | omega | assumption | (simp [hT]; done) | (simp [hT]; omega)) (by first | omega | assumption | (simp [hT]; done) | (simp [hT]; omega)) (by first | omega | assumption | (simp [hT]; done) | (simp [hT]; omega))) ?_
    have wb := ww.bm
    exact WL_f wb (by omega) (by decide) (by omega) (fun Q => m_valueAt_f1 (r := i1) (c := i2) wb.2.1.1.1 wb.2.1.1.2.1 hwf (by first | omega | assumption | (simp [hT]; done) | (simp [hT]; omega)) (by first | omega | assumption | (simp [hT]; done) | (simp [hT]; omega)) (by first | omega | assumption | (simp [hT]; done) | (simp [hT]; omega)))
  refine Eq.mpr (c_valueAt_t (r := i1) (c := i2) hb (by first | omega | assumption | (simp [hT]; done) | (simp [hT]; omega)) (by first | omega | assumption | (simp [hT]; done) | (simp [hT]; omega)) (by first | omega | assumption | (simp [hT]; done) | (simp [hT]; omega))) ?_
  exact WL_q ww (by omega) (fun σ' Q hi hg h => Eq.mpr (m_valueAt_t (r := i1) (c := i2) hi.1 hi.2.1 hwf (by first | omega | assumption | (simp [hT]; done) | (simp [hT]; omega)) (by first | omega | assumption | (simp [hT]; done) | (simp [hT]; omega)) (by first | omega | assumption | (simp [hT]; done) | (simp [hT]; omega))) h)

