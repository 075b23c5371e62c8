/-! CLASS AND MODEL ALIKE: changes -/
theorem p_select {L : Nat} {xs : Nat → Int32} {σ : St} (hw : WI L xs σ) (v1 v2 v3 v4 v5 : Int32) : Ex 257 [.ref 2, .int v1, .int v2, .int v3, .int v4, .int v5, .ref 1333] σ (PR L xs σ 185 [.ref 838, .int v1, .int v2, .int v3, .int v4, .int v5]) := by
  obtain ⟨a, n, hs, k, g, hc, hm, hl⟩ := hw
  obtain ⟨i1, rfl, r1⟩ := ivx v1
  obtain ⟨i2, rfl, r2⟩ := ivx v2
  obtain ⟨i3, rfl, r3⟩ := ivx v3
  obtain ⟨i4, rfl, r4⟩ := ivx v4
  obtain ⟨i5, rfl, r5⟩ := ivx v5
  have ww := WC.rf hc hm hl
  have hb := hc.1
  have hwf : WF a := hb.2.2.1
  have h481 := hm.2.1
  have hpM : pM a ≤ 4 := hwf.2.2.2.2.2.1
  have hn8 : n ≤ 8 := hm.1.2.2.1
  have hT120 := fb_ct_le (pT a) 120
  refine L_257 hb.1.1 ?_
  by_cases h1 : (i1 < 0 ∨ 8 ≤ i1) ∨ (i2 < 0 ∨ 4 ≤ i2)
  · refine Eq.mpr (c_select_f1 (f := i1) (c := i2) (t := i3) (u := i4) (w := i5) hb (by omega) (by omega) (by omega) (by omega) (by omega) (by omega)) ?_
    have wb := ww.bm
    exact WL_f wb (by omega) (by decide) (by omega) (fun Q => m_select_f1 (f := i1) (c := i2) (t := i3) (u := i4) (w := i5) wb.2.1.1.1 wb.2.1.1.2.1 hwf (by omega) (by omega) (by omega) (by omega) (by omega) (by omega))
  by_cases h2 : (i3 < 0 ∨ 7 < i3) ∨ (i4 < -64 ∨ 63 < i4) ∨ (i5 < 0 ∨ 2 < i5)
  · refine Eq.mpr (c_select_f2 (f := i1) (c := i2) (t := i3) (u := i4) (w := i5) hb (by omega) (by omega) (by omega) (by omega) (by omega) (by omega) (by omega) (by omega)) ?_
    have wb := ww.bm
    exact WL_f wb (by omega) (by decide) (by omega) (fun Q => m_select_f2 (f := i1) (c := i2) (t := i3) (u := i4) (w := i5) wb.2.1.1.1 wb.2.1.1.2.1 hwf (by omega) (by omega) (by omega) (by omega) (by omega) (by omega) (by omega) (by omega))
  refine c_select_t (f := i1) (c := i2) (t := i3) (u := i4) (w := i5) hb (by omega) (by omega) (by omega) (by omega) (by omega) (fun σ1 ho hb1 => WL_c (ww.chg ho hb1) (by omega) (fun σ' Q hi hQ => m_select_t (f := i1) (c := i2) (t := i3) (u := i4) (w := i5) hi hwf (by omega) (by omega) (by omega) (by omega) (by omega) hQ))

theorem p_between {L : Nat} {xs : Nat → Int32} {σ : St} (hw : WI L xs σ) (v1 v2 v3 v4 : Int32) : Ex 258 [.ref 2, .int v1, .int v2, .int v3, .int v4, .ref 1333] σ (PR L xs σ 186 [.ref 838, .int v1, .int v2, .int v3, .int v4]) := by
  obtain ⟨a, n, hs, k, g, hc, hm, hl⟩ := hw
  obtain ⟨i1, rfl, r1⟩ := ivx v1
  obtain ⟨i2, rfl, r2⟩ := ivx v2
  obtain ⟨i3, rfl, r3⟩ := ivx v3
  obtain ⟨i4, rfl, r4⟩ := ivx v4
  have ww := WC.rf hc hm hl
  have hb := hc.1
  have hwf : WF a := hb.2.2.1
  have h481 := hm.2.1
  have hpM : pM a ≤ 4 := hwf.2.2.2.2.2.1
  have hn8 : n ≤ 8 := hm.1.2.2.1
  have hT120 := fb_ct_le (pT a) 120
  refine L_258 hb.1.1 ?_
  by_cases h1 : (i1 < 0 ∨ 8 ≤ i1) ∨ (i2 < 0 ∨ 4 ≤ i2)
  · refine Eq.mpr (c_between_f1 (f := i1) (c := i2) (lo := i3) (hi := i4) hb (by omega) (by omega) (by omega) (by omega) (by omega)) ?_
    have wb := ww.bm
    exact WL_f wb (by omega) (by decide) (by omega) (fun Q => m_between_f1 (f := i1) (c := i2) (lo := i3) (hi := i4) wb.2.1.1.1 wb.2.1.1.2.1 hwf (by omega) (by omega) (by omega) (by omega) (by omega))
  by_cases h2 : (i3 < -64 ∨ 63 < i3) ∨ (i4 < -64 ∨ 63 < i4)
  · refine Eq.mpr (c_between_f2 (f := i1) (c := i2) (lo := i3) (hi := i4) hb (by omega) (by omega) (by omega) (by omega) (by omega) (by omega) (by omega)) ?_
    have wb := ww.bm
    exact WL_f wb (by omega) (by decide) (by omega) (fun Q => m_between_f2 (f := i1) (c := i2) (lo := i3) (hi := i4) wb.2.1.1.1 wb.2.1.1.2.1 hwf (by omega) (by omega) (by omega) (by omega) (by omega) (by omega) (by omega))
  refine c_between_t (f := i1) (c := i2) (lo := i3) (hi := i4) hb (by omega) (by omega) (by omega) (by omega) (fun σ1 ho hb1 => WL_c (ww.chg ho hb1) (by omega) (fun σ' Q hi hQ => m_between_t (f := i1) (c := i2) (lo := i3) (hi0 := i4) hi hwf (by omega) (by omega) (by omega) (by omega) hQ))

theorem p_compare {L : Nat} {xs : Nat → Int32} {σ : St} (hw : WI L xs σ) (v1 v2 v3 v4 : Int32) : Ex 259 [.ref 2, .int v1, .int v2, .int v3, .int v4, .ref 1333] σ (PR L xs σ 187 [.ref 838, .int v1, .int v2, .int v3, .int v4]) := by
  obtain ⟨a, n, hs, k, g, hc, hm, hl⟩ := hw
  obtain ⟨i1, rfl, r1⟩ := ivx v1
  obtain ⟨i2, rfl, r2⟩ := ivx v2
  obtain ⟨i3, rfl, r3⟩ := ivx v3
  obtain ⟨i4, rfl, r4⟩ := ivx v4
  have ww := WC.rf hc hm hl
  have hb := hc.1
  have hwf : WF a := hb.2.2.1
  have h481 := hm.2.1
  have hpM : pM a ≤ 4 := hwf.2.2.2.2.2.1
  have hn8 : n ≤ 8 := hm.1.2.2.1
  have hT120 := fb_ct_le (pT a) 120
  refine L_259 hb.1.1 ?_
  by_cases h1 : (i1 < 0 ∨ 8 ≤ i1) ∨ (i2 < 0 ∨ 4 ≤ i2) ∨ (i4 < 0 ∨ 4 ≤ i4)
  · refine Eq.mpr (c_compare_f1 (f := i1) (c := i2) (t := i3) (d := i4) hb (by omega) (by omega) (by omega) (by omega) (by omega)) ?_
    have wb := ww.bm
    exact WL_f wb (by omega) (by decide) (by omega) (fun Q => m_compare_f1 (f := i1) (c := i2) (t := i3) (d := i4) wb.2.1.1.1 wb.2.1.1.2.1 hwf (by omega) (by omega) (by omega) (by omega) (by omega))
  by_cases h2 : (i3 < 0 ∨ 5 < i3)
  · refine Eq.mpr (c_compare_f2 (f := i1) (c := i2) (t := i3) (d := i4) hb (by omega) (by omega) (by omega) (by omega) (by omega) (by omega) (by omega) (by omega)) ?_
    have wb := ww.bm
    exact WL_f wb (by omega) (by decide) (by omega) (fun Q => m_compare_f2 (f := i1) (c := i2) (t := i3) (d := i4) wb.2.1.1.1 wb.2.1.1.2.1 hwf (by omega) (by omega) (by omega) (by omega) (by omega) (by omega) (by omega) (by omega))
  refine c_compare_t (f := i1) (c := i2) (t := i3) (d := i4) hb (by omega) (by omega) (by omega) (by omega) (fun σ1 ho hb1 => WL_c (ww.chg ho hb1) (by omega) (fun σ' Q hi hQ => m_compare_t (f := i1) (c := i2) (t := i3) (d := i4) hi hwf (by omega) (by omega) (by omega) (by omega) hQ))

theorem p_combine {L : Nat} {xs : Nat → Int32} {σ : St} (hw : WI L xs σ) (v1 v2 v3 : Int32) : Ex 260 [.ref 2, .int v1, .int v2, .int v3, .ref 1333] σ (PR L xs σ 189 [.ref 838, .int v1, .int v2, .int v3]) := by
  obtain ⟨a, n, hs, k, g, hc, hm, hl⟩ := hw
  obtain ⟨i1, rfl, r1⟩ := ivx v1
  obtain ⟨i2, rfl, r2⟩ := ivx v2
  obtain ⟨i3, rfl, r3⟩ := ivx v3
  have ww := WC.rf hc hm hl
  have hb := hc.1
  have hwf : WF a := hb.2.2.1
  have h481 := hm.2.1
  have hpM : pM a ≤ 4 := hwf.2.2.2.2.2.1
  have hn8 : n ≤ 8 := hm.1.2.2.1
  have hT120 := fb_ct_le (pT a) 120
  refine L_260 hb.1.1 ?_
  by_cases h1 : (i1 < 0 ∨ 8 ≤ i1) ∨ (i3 < 0 ∨ 8 ≤ i3)
  · refine Eq.mpr (c_combine_f1 (f := i1) (op := i2) (g := i3) hb (by omega) (by omega) (by omega) (by omega)) ?_
    have wb := ww.bm
    exact WL_f wb (by omega) (by decide) (by omega) (fun Q => m_combine_f1 (f := i1) (op := i2) (g := i3) wb.2.1.1.1 wb.2.1.1.2.1 hwf (by omega) (by omega) (by omega) (by omega))
  by_cases h2 : (i2 < 0 ∨ 3 < i2)
  · refine Eq.mpr (c_combine_f2 (f := i1) (op := i2) (g := i3) hb (by omega) (by omega) (by omega) (by omega) (by omega) (by omega)) ?_
    have wb := ww.bm
    exact WL_f wb (by omega) (by decide) (by omega) (fun Q => m_combine_f2 (f := i1) (op := i2) (g := i3) wb.2.1.1.1 wb.2.1.1.2.1 hwf (by omega) (by omega) (by omega) (by omega) (by omega) (by omega))
  refine c_combine_t (f := i1) (op := i2) (g := i3) hb (by omega) (by omega) (by omega) (fun σ1 ho hb1 => WL_c (ww.chg ho hb1) (by omega) (fun σ' Q hi hQ => m_combine_t (f := i1) (op := i2) (g := i3) hi hwf (by omega) (by omega) (by omega) hQ))

theorem p_contrary {L : Nat} {xs : Nat → Int32} {σ : St} (hw : WI L xs σ) (v1 : Int32) : Ex 261 [.ref 2, .int v1, .ref 1333] σ (PR L xs σ 190 [.ref 838, .int v1]) := by
  obtain ⟨a, n, hs, k, g, hc, hm, hl⟩ := hw
  obtain ⟨i1, rfl, r1⟩ := ivx v1
  have ww := WC.rf hc hm hl
  have hb := hc.1
  have hwf : WF a := hb.2.2.1
  have h481 := hm.2.1
  have hpM : pM a ≤ 4 := hwf.2.2.2.2.2.1
  have hn8 : n ≤ 8 := hm.1.2.2.1
  have hT120 := fb_ct_le (pT a) 120
  refine L_261 hb.1.1 ?_
  by_cases h1 : (i1 < 0 ∨ 8 ≤ i1)
  · refine Eq.mpr (c_contrary_f1 (f := i1) hb (by omega) (by omega)) ?_
    have wb := ww.bm
    exact WL_f wb (by omega) (by decide) (by omega) (fun Q => m_contrary_f1 (f := i1) wb.2.1.1.1 wb.2.1.1.2.1 hwf (by omega) (by omega))
  refine c_contrary_t (f := i1) hb (by omega) (fun σ1 ho hb1 => WL_c (ww.chg ho hb1) (by omega) (fun σ' Q hi hQ => m_contrary_t (f := i1) hi hwf (by omega) hQ))

theorem p_copyOf {L : Nat} {xs : Nat → Int32} {σ : St} (hw : WI L xs σ) (v1 v2 : Int32) : Ex 262 [.ref 2, .int v1, .int v2, .ref 1333] σ (PR L xs σ 191 [.ref 838, .int v1, .int v2]) := by
  obtain ⟨a, n, hs, k, g, hc, hm, hl⟩ := hw
  obtain ⟨i1, rfl, r1⟩ := ivx v1
  obtain ⟨i2, rfl, r2⟩ := ivx v2
  have ww := WC.rf hc hm hl
  have hb := hc.1
  have hwf : WF a := hb.2.2.1
  have h481 := hm.2.1
  have hpM : pM a ≤ 4 := hwf.2.2.2.2.2.1
  have hn8 : n ≤ 8 := hm.1.2.2.1
  have hT120 := fb_ct_le (pT a) 120
  refine L_262 hb.1.1 ?_
  by_cases h1 : (i1 < 0 ∨ 8 ≤ i1) ∨ (i2 < 0 ∨ 8 ≤ i2)
  · refine Eq.mpr (c_copyOf_f1 (f := i1) (g := i2) hb (by omega) (by omega) (by omega)) ?_
    have wb := ww.bm
    exact WL_f wb (by omega) (by decide) (by omega) (fun Q => m_copyOf_f1 (f := i1) (g := i2) wb.2.1.1.1 wb.2.1.1.2.1 hwf (by omega) (by omega) (by omega))
  refine c_copyOf_t (f := i1) (g := i2) hb (by omega) (by omega) (fun σ1 ho hb1 => WL_c (ww.chg ho hb1) (by omega) (fun σ' Q hi hQ => m_copyOf_t (f := i1) (g := i2) hi hwf (by omega) (by omega) hQ))

theorem p_partners {L : Nat} {xs : Nat → Int32} {σ : St} (hw : WI L xs σ) (v1 v2 v3 v4 v5 : Int32) : Ex 265 [.ref 2, .int v1, .int v2, .int v3, .int v4, .int v5, .ref 1333] σ (PR L xs σ 194 [.ref 838, .int v1, .int v2, .int v3, .int v4, .int v5]) := by
  obtain ⟨a, n, hs, k, g, hc, hm, hl⟩ := hw
  obtain ⟨i1, rfl, r1⟩ := ivx v1
  obtain ⟨i2, rfl, r2⟩ := ivx v2
  obtain ⟨i3, rfl, r3⟩ := ivx v3
  obtain ⟨i4, rfl, r4⟩ := ivx v4
  obtain ⟨i5, rfl, r5⟩ := ivx v5
  have ww := WC.rf hc hm hl
  have hb := hc.1
  have hwf : WF a := hb.2.2.1
  have h481 := hm.2.1
  have hpM : pM a ≤ 4 := hwf.2.2.2.2.2.1
  have hn8 : n ≤ 8 := hm.1.2.2.1
  have hT120 := fb_ct_le (pT a) 120
  refine L_265 hb.1.1 ?_
  by_cases h1 : (i1 < 0 ∨ 8 ≤ i1) ∨ ((i2 < 0 ∨ 4 ≤ i2) ∨ (i3 < 0 ∨ 8 ≤ i3) ∨ (i4 < 0 ∨ 4 ≤ i4) ∨ (i5 < 0 ∨ 8 ≤ i5))
  · refine Eq.mpr (c_partners_f1 (e := i1) (c := i2) (f := i3) (d := i4) (g := i5) hb (by omega) (by omega) (by omega) (by omega) (by omega) (by omega)) ?_
    have wb := ww.bm
    exact WL_f wb (by omega) (by decide) (by omega) (fun Q => m_partners_f1 (e := i1) (c := i2) (f := i3) (d := i4) (g := i5) wb.2.1.1.1 wb.2.1.1.2.1 hwf (by omega) (by omega) (by omega) (by omega) (by omega) (by omega))
  refine c_partners_t (e := i1) (c := i2) (f := i3) (d := i4) (g := i5) hb (by omega) (by omega) (by omega) (by omega) (by omega) (fun σ1 ho hb1 => WL_c (ww.chg ho hb1) (by omega) (fun σ' Q hi hQ => m_partners_t (e0 := i1) (c := i2) (f := i3) (d := i4) (g := i5) hi hwf (by omega) (by omega) (by omega) (by omega) (by omega) hQ))

theorem p_runPlan {L : Nat} {xs : Nat → Int32} {σ : St} (hw : WI L xs σ) (v1 : Int32) : Ex 266 [.ref 2, .int v1, .ref 1333] σ (PR L xs σ 195 [.ref 838, .int v1]) := by
  obtain ⟨a, n, hs, k, g, hc, hm, hl⟩ := hw
  obtain ⟨i1, rfl, r1⟩ := ivx v1
  have ww := WC.rf hc hm hl
  have hb := hc.1
  have hwf : WF a := hb.2.2.1
  have h481 := hm.2.1
  have hpM : pM a ≤ 4 := hwf.2.2.2.2.2.1
  have hn8 : n ≤ 8 := hm.1.2.2.1
  have hT120 := fb_ct_le (pT a) 120
  refine L_266 hb.1.1 ?_
  by_cases h1 : (i1 < 0 ∨ 8 ≤ i1)
  · refine Eq.mpr (c_runPlan_f1 (f := i1) hb (by omega) (by omega)) ?_
    have wb := ww.bm
    exact WL_f wb (by omega) (by decide) (by omega) (fun Q => m_runPlan_f1 (f := i1) wb.2.1.1.1 wb.2.1.1.2.1 hwf (by omega) (by omega))
  refine c_runPlan_t (f := i1) hb (by omega) (fun σ1 ho hb1 => WL_c (ww.chg ho hb1) (by omega) (fun σ' Q hi hQ => m_runPlan_t (f := i1) hi hwf (by omega) hQ))

theorem p_unpack {L : Nat} {xs : Nat → Int32} {σ : St} (hw : WI L xs σ) (v1 v2 : Int32) : Ex 267 [.ref 2, .int v1, .int v2, .ref 1333] σ (PR L xs σ 196 [.ref 838, .int v1, .int v2]) := by
  obtain ⟨a, n, hs, k, g, hc, hm, hl⟩ := hw
  obtain ⟨i1, rfl, r1⟩ := ivx v1
  obtain ⟨i2, rfl, r2⟩ := ivx v2
  have ww := WC.rf hc hm hl
  have hb := hc.1
  have hwf : WF a := hb.2.2.1
  have h481 := hm.2.1
  have hpM : pM a ≤ 4 := hwf.2.2.2.2.2.1
  have hn8 : n ≤ 8 := hm.1.2.2.1
  have hT120 := fb_ct_le (pT a) 120
  refine L_267 hb.1.1 ?_
  by_cases h1 : (i1 < 0 ∨ 8 ≤ i1) ∨ (i2 < 0 ∨ 4 ≤ i2)
  · refine Eq.mpr (c_unpack_f1 (f := i1) (p := i2) hb (by omega) (by omega) (by omega)) ?_
    have wb := ww.bm
    exact WL_f wb (by omega) (by decide) (by omega) (fun Q => m_unpack_f1 (f := i1) (p := i2) wb.2.1.1.1 wb.2.1.1.2.1 hwf (by omega) (by omega) (by omega))
  refine c_unpack_t (f := i1) (p := i2) hb (by omega) (by omega) (fun σ1 ho hb1 => WL_c (ww.chg ho hb1) (by omega) (fun σ' Q hi hQ => m_unpack_t (f := i1) (p := i2) hi hwf (by omega) (by omega) hQ))

theorem p_pack {L : Nat} {xs : Nat → Int32} {σ : St} (hw : WI L xs σ) (v1 v2 : Int32) : Ex 268 [.ref 2, .int v1, .int v2, .ref 1333] σ (PR L xs σ 198 [.ref 838, .int v1, .int v2]) := by
  obtain ⟨a, n, hs, k, g, hc, hm, hl⟩ := hw
  obtain ⟨i1, rfl, r1⟩ := ivx v1
  obtain ⟨i2, rfl, r2⟩ := ivx v2
  have ww := WC.rf hc hm hl
  have hb := hc.1
  have hwf : WF a := hb.2.2.1
  have h481 := hm.2.1
  have hpM : pM a ≤ 4 := hwf.2.2.2.2.2.1
  have hn8 : n ≤ 8 := hm.1.2.2.1
  have hT120 := fb_ct_le (pT a) 120
  refine L_268 hb.1.1 ?_
  by_cases h1 : (i1 < 0 ∨ 4 ≤ i1) ∨ (i2 < 0 ∨ 8 ≤ i2)
  · refine Eq.mpr (c_pack_f1 (p := i1) (f := i2) hb (by omega) (by omega) (by omega)) ?_
    have wb := ww.bm
    exact WL_f wb (by omega) (by decide) (by omega) (fun Q => m_pack_f1 (p := i1) (f := i2) wb.2.1.1.1 wb.2.1.1.2.1 hwf (by omega) (by omega) (by omega))
  refine c_pack_t (p := i1) (f := i2) hb (by omega) (by omega) (fun σ1 ho hb1 => WL_c (ww.chg ho hb1) (by omega) (fun σ' Q hi hQ => m_pack_t (p := i1) (f := i2) hi hwf (by omega) (by omega) hQ))

theorem p_combinePacked {L : Nat} {xs : Nat → Int32} {σ : St} (hw : WI L xs σ) (v1 v2 v3 : Int32) : Ex 269 [.ref 2, .int v1, .int v2, .int v3, .ref 1333] σ (PR L xs σ 199 [.ref 838, .int v1, .int v2, .int v3]) := by
  obtain ⟨a, n, hs, k, g, hc, hm, hl⟩ := hw
  obtain ⟨i1, rfl, r1⟩ := ivx v1
  obtain ⟨i2, rfl, r2⟩ := ivx v2
  obtain ⟨i3, rfl, r3⟩ := ivx v3
  have ww := WC.rf hc hm hl
  have hb := hc.1
  have hwf : WF a := hb.2.2.1
  have h481 := hm.2.1
  have hpM : pM a ≤ 4 := hwf.2.2.2.2.2.1
  have hn8 : n ≤ 8 := hm.1.2.2.1
  have hT120 := fb_ct_le (pT a) 120
  refine L_269 hb.1.1 ?_
  by_cases h1 : (i1 < 0 ∨ 4 ≤ i1) ∨ (i3 < 0 ∨ 4 ≤ i3)
  · refine Eq.mpr (c_combinePacked_f1 (p := i1) (op := i2) (g := i3) hb (by omega) (by omega) (by omega) (by omega)) ?_
    have wb := ww.bm
    exact WL_f wb (by omega) (by decide) (by omega) (fun Q => m_combinePacked_f1 (p := i1) (op := i2) (g := i3) wb.2.1.1.1 wb.2.1.1.2.1 hwf (by omega) (by omega) (by omega) (by omega))
  by_cases h2 : (i2 < 0 ∨ 3 < i2)
  · refine Eq.mpr (c_combinePacked_f2 (p := i1) (op := i2) (g := i3) hb (by omega) (by omega) (by omega) (by omega) (by omega) (by omega)) ?_
    have wb := ww.bm
    exact WL_f wb (by omega) (by decide) (by omega) (fun Q => m_combinePacked_f2 (p := i1) (op := i2) (g := i3) wb.2.1.1.1 wb.2.1.1.2.1 hwf (by omega) (by omega) (by omega) (by omega) (by omega) (by omega))
  refine c_combinePacked_t (p := i1) (op := i2) (g := i3) hb (by omega) (by omega) (by omega) (fun σ1 ho hb1 => WL_c (ww.chg ho hb1) (by omega) (fun σ' Q hi hQ => m_combinePacked_t (p := i1) (op := i2) (g := i3) hi hwf (by omega) (by omega) (by omega) hQ))

theorem p_contraryPacked {L : Nat} {xs : Nat → Int32} {σ : St} (hw : WI L xs σ) (v1 : Int32) : Ex 270 [.ref 2, .int v1, .ref 1333] σ (PR L xs σ 200 [.ref 838, .int v1]) := by
  obtain ⟨a, n, hs, k, g, hc, hm, hl⟩ := hw
  obtain ⟨i1, rfl, r1⟩ := ivx v1
  have ww := WC.rf hc hm hl
  have hb := hc.1
  have hwf : WF a := hb.2.2.1
  have h481 := hm.2.1
  have hpM : pM a ≤ 4 := hwf.2.2.2.2.2.1
  have hn8 : n ≤ 8 := hm.1.2.2.1
  have hT120 := fb_ct_le (pT a) 120
  refine L_270 hb.1.1 ?_
  by_cases h1 : (i1 < 0 ∨ 4 ≤ i1)
  · refine Eq.mpr (c_contraryPacked_f1 (p := i1) hb (by omega) (by omega)) ?_
    have wb := ww.bm
    exact WL_f wb (by omega) (by decide) (by omega) (fun Q => m_contraryPacked_f1 (p := i1) wb.2.1.1.1 wb.2.1.1.2.1 hwf (by omega) (by omega))
  refine c_contraryPacked_t (p := i1) hb (by omega) (fun σ1 ho hb1 => WL_c (ww.chg ho hb1) (by omega) (fun σ' Q hi hQ => m_contraryPacked_t (p := i1) hi hwf (by omega) hQ))

theorem p_addCondition {L : Nat} {xs : Nat → Int32} {σ : St} (hw : WI L xs σ) (v1 v2 v3 : Int32) : Ex 271 [.ref 2, .int v1, .int v2, .int v3, .ref 1333] σ (PR L xs σ 201 [.ref 838, .int v1, .int v2, .int v3]) := by
  obtain ⟨a, n, hs, k, g, hc, hm, hl⟩ := hw
  obtain ⟨i1, rfl, r1⟩ := ivx v1
  obtain ⟨i2, rfl, r2⟩ := ivx v2
  obtain ⟨i3, rfl, r3⟩ := ivx v3
  have ww := WC.rf hc hm hl
  have hb := hc.1
  have hwf : WF a := hb.2.2.1
  have h481 := hm.2.1
  have hpM : pM a ≤ 4 := hwf.2.2.2.2.2.1
  have hn8 : n ≤ 8 := hm.1.2.2.1
  have hT120 := fb_ct_le (pT a) 120
  refine L_271 hb.1.1 ?_
  by_cases h1 : (i1 < 0 ∨ 4 ≤ i1)
  · refine Eq.mpr (c_addCondition_f1 (c := i1) (t := i2) (u := i3) hb (by omega) (by omega) (by omega) (by omega)) ?_
    have wb := ww.bm
    exact WL_f wb (by omega) (by decide) (by omega) (fun Q => m_addCondition_f1 (c := i1) (t := i2) (u := i3) wb.2.1.1.1 wb.2.1.1.2.1 hwf (by omega) (by omega) (by omega) (by omega))
  by_cases h2 : (i2 < 0 ∨ 7 < i2) ∨ (i3 < -64 ∨ 63 < i3)
  · refine Eq.mpr (c_addCondition_f2 (c := i1) (t := i2) (u := i3) hb (by omega) (by omega) (by omega) (by omega) (by omega)) ?_
    have wb := ww.bm
    exact WL_f wb (by omega) (by decide) (by omega) (fun Q => m_addCondition_f2 (c := i1) (t := i2) (u := i3) wb.2.1.1.1 wb.2.1.1.2.1 hwf (by omega) (by omega) (by omega) (by omega) (by omega))
  by_cases h3 : (pM a = 4)
  · refine Eq.mpr (c_addCondition_f3 (c := i1) (t := i2) (u := i3) hb (by omega) (by omega) (by omega) (by omega) (by omega) (by omega) (by omega)) ?_
    have wb := ww.bm
    exact WL_f wb (by omega) (by decide) (by omega) (fun Q => m_addCondition_f3 (c := i1) (t := i2) (u := i3) wb.2.1.1.1 wb.2.1.1.2.1 hwf (by omega) (by omega) (by omega) (by omega) (by omega) (by omega) (by omega))
  refine c_addCondition_t (c := i1) (t := i2) (u := i3) hb (by omega) (by omega) (by omega) (by omega) (fun σ1 ho hb1 => WL_c (ww.chg ho hb1) (by omega) (fun σ' Q hi hQ => m_addCondition_t (c := i1) (t := i2) (u := i3) hi hwf (by omega) (by omega) (by omega) (by omega) hQ))

theorem p_dropCondition {L : Nat} {xs : Nat → Int32} {σ : St} (hw : WI L xs σ) (v1 : Int32) : Ex 272 [.ref 2, .int v1, .ref 1333] σ (PR L xs σ 203 [.ref 838, .int v1]) := by
  obtain ⟨a, n, hs, k, g, hc, hm, hl⟩ := hw
  obtain ⟨i1, rfl, r1⟩ := ivx v1
  have ww := WC.rf hc hm hl
  have hb := hc.1
  have hwf : WF a := hb.2.2.1
  have h481 := hm.2.1
  have hpM : pM a ≤ 4 := hwf.2.2.2.2.2.1
  have hn8 : n ≤ 8 := hm.1.2.2.1
  have hT120 := fb_ct_le (pT a) 120
  refine L_272 hb.1.1 ?_
  by_cases h1 : (i1 < 0 ∨ (pM a : Int) ≤ i1)
  · refine Eq.mpr (c_dropCondition_f1 (k := i1) hb (by omega) (by omega)) ?_
    have wb := ww.bm
    exact WL_f wb (by omega) (by decide) (by omega) (fun Q => m_dropCondition_f1 (k := i1) wb.2.1.1.1 wb.2.1.1.2.1 hwf (by omega) (by omega))
  refine c_dropCondition_t (d := i1) hb (by omega) (fun σ1 ho hb1 => WL_c (ww.chg ho hb1) (by omega) (fun σ' Q hi hQ => m_dropCondition_t (d := i1) hi hwf (by omega) hQ))

theorem p_undo {L : Nat} {xs : Nat → Int32} {σ : St} (hw : WI L xs σ) : Ex 273 [.ref 2, .ref 1333] σ (PR L xs σ 204 [.ref 838]) := by
  obtain ⟨a, n, hs, k, g, hc, hm, hl⟩ := hw
  have ww := WC.rf hc hm hl
  have hb := hc.1
  have hwf : WF a := hb.2.2.1
  have h481 := hm.2.1
  have hpM : pM a ≤ 4 := hwf.2.2.2.2.2.1
  have hn8 : n ≤ 8 := hm.1.2.2.1
  have hT120 := fb_ct_le (pT a) 120
  refine L_273 hb.1.1 ?_
  by_cases h1 : (n = 0)
  · refine Eq.mpr (c_undo_f1 hb (by omega)) ?_
    have wb := ww.bm
    exact WL_f wb (by omega) (by decide) (by omega) (fun Q => m_undo_f1 wb.2.1.1.1 wb.2.1.1.2.1 hwf wb.2.1.1.2.2.1 wb.2.1.1.2.2.2.1 (by omega))
  refine c_undo_t hb (by omega) (fun σ1 ho hb1 => WL_c (ww.chg ho hb1) (by omega) (fun σ' Q hi hQ => m_undo_t hi hwf (by omega) hQ))

