/-! the law's own body: its entries are right, block by block, by the library's linear look at the bytes (Jvm.Free.DS.facts) -/
def isPl (i : Instr) : Bool := match i with
  | .nop => false
  | .monitorenter => false
  | .athrow => false
  | _ => true
theorem okE_pl {z pc len : Nat} {i : Instr} {ext : List Nat} {bs : List (List En)} (h : isPl i = true) : okE z bs (pc, i, len, ext) = (match decode (mB z) pc with | .ok (j, l) => decide (l = len) && lnOk j l && okJ z bs pc j i ext | .error _ => false) := by
  cases i <;> first | rfl | exact absurd h (by decide)
def okNp (bs : List (List En)) (e : En) : Bool := match e.2.1 with
  | .nop => (match e.2.2.2 with | [b] => decide (e.2.2.1 = 0) && decide (hpc bs b = e.1) | _ => false)
  | _ => false
theorem okE_np {z : Nat} {bs : List (List En)} {e : En} (h : okNp bs e = true) : okE z bs e = true := by
  obtain ⟨pc, i, len, ext⟩ := e
  cases i <;> first | exact h | cases h
noncomputable def wlk (z : Nat) (bs : List (List En)) : Nat → List En → List (Instr × Nat) → Bool
  | _, [], _ => true
  | pc, e :: r, [] => decide (e.1 = pc) && okNp bs e && wlk z bs (pc + e.2.2.1) r []
  | pc, e :: r, (j, l) :: t => decide (e.1 = pc) && (isPl e.2.1 && decide (l = e.2.2.1) && lnOk j l && okJ z bs pc j e.2.1 e.2.2.2) && wlk z bs (pc + e.2.2.1) r t
theorem wlk_ok {z : Nat} {bs : List (List En)} : ∀ (cs : List En) (pc : Nat) (t : List (Instr × Nat)), Jvm.Free.DS.Facts (mB z) pc t → wlk z bs pc cs t = true → chn pc cs = true ∧ cs.all (okE z bs) = true
  | [], _, _, _, _ => ⟨rfl, rfl⟩
  | e :: r, pc, [], _, h => by
    simp only [wlk, Bool.and_eq_true, decide_eq_true_eq] at h
    obtain ⟨⟨rfl, h2⟩, h3⟩ := h
    obtain ⟨g1, g2⟩ := wlk_ok r (e.1 + e.2.2.1) [] trivial h3
    refine ⟨by simp [chn, g1], ?_⟩
    rw [List.all_cons, Bool.and_eq_true]
    exact ⟨okE_np h2, g2⟩
  | (p0, i, len, ext) :: r, pc, (j, l) :: t, hF, h => by
    simp only [wlk, Bool.and_eq_true, decide_eq_true_eq] at h
    obtain ⟨⟨rfl, ⟨⟨h0, rfl⟩, h2⟩, h3⟩, h4⟩ := h
    obtain ⟨f1, f2⟩ := hF
    obtain ⟨g1, g2⟩ := wlk_ok r (p0 + l) t f2 h4
    refine ⟨by simp [chn, g1], ?_⟩
    rw [List.all_cons, Bool.and_eq_true]
    refine ⟨?_, g2⟩
    rw [okE_pl h0, f1]
    simp [h2, h3]
theorem okK_of {z : Nat} {bs : List (List En)} {e : En} {cs : List En} {t : List (Instr × Nat)} (hF : Jvm.Free.DS.Facts (mB z) e.1 t) (h : wlk z bs e.1 (e :: cs) t = true) : okK z bs (e :: cs) = true := by
  obtain ⟨h1, h2⟩ := wlk_ok (e :: cs) e.1 t hF h
  unfold okK
  rw [Bool.and_eq_true]
  exact ⟨h1, h2⟩
noncomputable def rw_0 : List (Instr × Nat) := [(.new 8, 3), (.dup, 1), (.invokespecial 173, 3), (.astore_n 1, 1), (.new 174, 3), (.dup, 1), (.invokespecial 176, 3), (.astore_n 2, 1), (.iconst 1, 1), (.newarray .long, 2), (.astore_n 3, 1), (.iconst 1, 1), (.newarray .double, 2), (.astore 4, 2), (.iconst 0, 1), (.istore 5, 2)]
set_option maxRecDepth 100000 in
theorem fb_0 : Jvm.Free.DS.Facts code 0 rw_0 := Jvm.Free.DS.facts 0 rw_0 (by decide +kernel) (by decide +kernel)
set_option maxRecDepth 100000 in
theorem cl_0 : okK 301 cod_301 b_301_0 = true := okK_of (t := rw_0) fb_0 (by decide +kernel)
noncomputable def rw_1 : List (Instr × Nat) := [(.iload 5, 2), (.aload_n 0, 1), (.arraylength, 1), (.bipush 6, 2), (.isub, 1), (.if_icmp .gt 3903, 3), (.aload_n 0, 1), (.iload 5, 2), (.iaload, 1), (.bipush 63, 2), (.iand, 1), (.tableswitch 3887 0 51 #[223, 315, 395, 475, 531, 635, 727, 819, 899, 955, 1023, 1126, 1206, 1310, 1366, 1434, 1502, 1582, 1638, 1718, 1774, 1818, 1831, 1887, 1955, 2011, 2095, 2191, 2271, 2327, 2407, 2482, 2578, 2646, 2726, 2794, 2874, 2942, 3022, 3090, 3182, 3250, 3318, 3374, 3470, 3545, 3558, 3626, 3694, 3707, 3796, 3874], 223)]
set_option maxRecDepth 100000 in
theorem fb_1 : Jvm.Free.DS.Facts code 28 rw_1 := Jvm.Free.DS.facts 28 rw_1 (by decide +kernel) (by decide +kernel)
set_option maxRecDepth 100000 in
theorem cl_1 : okK 301 cod_301 b_301_1 = true := okK_of (t := rw_1) fb_1 (by decide +kernel)
noncomputable def rw_2 : List (Instr × Nat) := [(.aload_n 1, 1), (.aload_n 0, 1), (.iload 5, 2), (.iconst 1, 1), (.iadd, 1), (.iaload, 1), (.aload_n 0, 1), (.iload 5, 2), (.iconst 2, 1), (.iadd, 1), (.iaload, 1), (.aload_n 0, 1), (.iload 5, 2), (.iconst 3, 1), (.iadd, 1), (.iaload, 1), (.aload_n 0, 1), (.iload 5, 2), (.iconst 4, 1), (.iadd, 1), (.iaload, 1), (.aload_n 3, 1), (.invokestatic 177, 3), (.istore 6, 2), (.aload_n 2, 1), (.aload_n 0, 1), (.iload 5, 2), (.iconst 1, 1), (.iadd, 1), (.iaload, 1), (.aload_n 0, 1), (.iload 5, 2), (.iconst 2, 1), (.iadd, 1), (.iaload, 1), (.aload_n 0, 1), (.iload 5, 2), (.iconst 3, 1), (.iadd, 1), (.iaload, 1), (.aload_n 0, 1), (.iload 5, 2), (.iconst 4, 1), (.iadd, 1), (.iaload, 1), (.invokevirtual 182, 3), (.istore 7, 2), (.aload_n 2, 1), (.invokevirtual 183, 3), (.iload 6, 2), (.if_icmp .eq 5, 3), (.iconst 0, 1), (.ireturn, 1)]
set_option maxRecDepth 100000 in
theorem fb_2 : Jvm.Free.DS.Facts code 268 rw_2 := Jvm.Free.DS.facts 268 rw_2 (by decide +kernel) (by decide +kernel)
set_option maxRecDepth 100000 in
theorem cl_2 : okK 301 cod_301 b_301_2 = true := okK_of (t := rw_2) fb_2 (by decide +kernel)
noncomputable def rw_3 : List (Instr × Nat) := [(.iload 6, 2), (.ifCond .ne 15, 3), (.aload_n 3, 1), (.iconst 0, 1), (.laload, 1), (.iload 7, 2), (.i2l, 1), (.lcmp, 1), (.ifCond .eq 5, 3), (.iconst 0, 1), (.ireturn, 1)]
set_option maxRecDepth 100000 in
theorem fb_3 : Jvm.Free.DS.Facts code 340 rw_3 := Jvm.Free.DS.facts 340 rw_3 (by decide +kernel) (by decide +kernel)
set_option maxRecDepth 100000 in
theorem cl_3 : okK 301 cod_301 b_301_3 = true := okK_of (t := rw_3) fb_3 (by decide +kernel)
noncomputable def rw_4 : List (Instr × Nat) := [(.goto 3575, 3)]
set_option maxRecDepth 100000 in
theorem fb_4 : Jvm.Free.DS.Facts code 357 rw_4 := Jvm.Free.DS.facts 357 rw_4 (by decide +kernel) (by decide +kernel)
set_option maxRecDepth 100000 in
theorem cl_4 : okK 301 cod_301 b_301_4 = true := okK_of (t := rw_4) fb_4 (by decide +kernel)
noncomputable def rw_5 : List (Instr × Nat) := [(.aload_n 1, 1), (.aload_n 0, 1), (.iload 5, 2), (.iconst 1, 1), (.iadd, 1), (.iaload, 1), (.aload_n 0, 1), (.iload 5, 2), (.iconst 2, 1), (.iadd, 1), (.iaload, 1), (.aload_n 0, 1), (.iload 5, 2), (.iconst 3, 1), (.iadd, 1), (.iaload, 1), (.aload_n 3, 1), (.invokestatic 186, 3), (.istore 6, 2), (.aload_n 2, 1), (.aload_n 0, 1), (.iload 5, 2), (.iconst 1, 1), (.iadd, 1), (.iaload, 1), (.aload_n 0, 1), (.iload 5, 2), (.iconst 2, 1), (.iadd, 1), (.iaload, 1), (.aload_n 0, 1), (.iload 5, 2), (.iconst 3, 1), (.iadd, 1), (.iaload, 1), (.invokevirtual 189, 3), (.istore 7, 2), (.aload_n 2, 1), (.invokevirtual 183, 3), (.iload 6, 2), (.if_icmp .eq 5, 3), (.iconst 0, 1), (.ireturn, 1)]
set_option maxRecDepth 100000 in
theorem fb_5 : Jvm.Free.DS.Facts code 360 rw_5 := Jvm.Free.DS.facts 360 rw_5 (by decide +kernel) (by decide +kernel)
set_option maxRecDepth 100000 in
theorem cl_5 : okK 301 cod_301 b_301_5 = true := okK_of (t := rw_5) fb_5 (by decide +kernel)
noncomputable def rw_6 : List (Instr × Nat) := [(.iload 6, 2), (.ifCond .ne 15, 3), (.aload_n 3, 1), (.iconst 0, 1), (.laload, 1), (.iload 7, 2), (.i2l, 1), (.lcmp, 1), (.ifCond .eq 5, 3), (.iconst 0, 1), (.ireturn, 1)]
set_option maxRecDepth 100000 in
theorem fb_6 : Jvm.Free.DS.Facts code 420 rw_6 := Jvm.Free.DS.facts 420 rw_6 (by decide +kernel) (by decide +kernel)
set_option maxRecDepth 100000 in
theorem cl_6 : okK 301 cod_301 b_301_6 = true := okK_of (t := rw_6) fb_6 (by decide +kernel)
noncomputable def rw_7 : List (Instr × Nat) := [(.goto 3495, 3)]
set_option maxRecDepth 100000 in
theorem fb_7 : Jvm.Free.DS.Facts code 437 rw_7 := Jvm.Free.DS.facts 437 rw_7 (by decide +kernel) (by decide +kernel)
set_option maxRecDepth 100000 in
theorem cl_7 : okK 301 cod_301 b_301_7 = true := okK_of (t := rw_7) fb_7 (by decide +kernel)
noncomputable def rw_8 : List (Instr × Nat) := [(.aload_n 1, 1), (.aload_n 0, 1), (.iload 5, 2), (.iconst 1, 1), (.iadd, 1), (.iaload, 1), (.aload_n 0, 1), (.iload 5, 2), (.iconst 2, 1), (.iadd, 1), (.iaload, 1), (.aload_n 0, 1), (.iload 5, 2), (.iconst 3, 1), (.iadd, 1), (.iaload, 1), (.aload_n 3, 1), (.invokestatic 190, 3), (.istore 6, 2), (.aload_n 2, 1), (.aload_n 0, 1), (.iload 5, 2), (.iconst 1, 1), (.iadd, 1), (.iaload, 1), (.aload_n 0, 1), (.iload 5, 2), (.iconst 2, 1), (.iadd, 1), (.iaload, 1), (.aload_n 0, 1), (.iload 5, 2), (.iconst 3, 1), (.iadd, 1), (.iaload, 1), (.invokevirtual 192, 3), (.istore 7, 2), (.aload_n 2, 1), (.invokevirtual 183, 3), (.iload 6, 2), (.if_icmp .eq 5, 3), (.iconst 0, 1), (.ireturn, 1)]
set_option maxRecDepth 100000 in
theorem fb_8 : Jvm.Free.DS.Facts code 440 rw_8 := Jvm.Free.DS.facts 440 rw_8 (by decide +kernel) (by decide +kernel)
set_option maxRecDepth 100000 in
theorem cl_8 : okK 301 cod_301 b_301_8 = true := okK_of (t := rw_8) fb_8 (by decide +kernel)
noncomputable def rw_9 : List (Instr × Nat) := [(.iload 6, 2), (.ifCond .ne 15, 3), (.aload_n 3, 1), (.iconst 0, 1), (.laload, 1), (.iload 7, 2), (.i2l, 1), (.lcmp, 1), (.ifCond .eq 5, 3), (.iconst 0, 1), (.ireturn, 1)]
set_option maxRecDepth 100000 in
theorem fb_9 : Jvm.Free.DS.Facts code 500 rw_9 := Jvm.Free.DS.facts 500 rw_9 (by decide +kernel) (by decide +kernel)
set_option maxRecDepth 100000 in
theorem cl_9 : okK 301 cod_301 b_301_9 = true := okK_of (t := rw_9) fb_9 (by decide +kernel)
noncomputable def rw_10 : List (Instr × Nat) := [(.goto 3415, 3)]
set_option maxRecDepth 100000 in
theorem fb_10 : Jvm.Free.DS.Facts code 517 rw_10 := Jvm.Free.DS.facts 517 rw_10 (by decide +kernel) (by decide +kernel)
set_option maxRecDepth 100000 in
theorem cl_10 : okK 301 cod_301 b_301_10 = true := okK_of (t := rw_10) fb_10 (by decide +kernel)
noncomputable def rw_11 : List (Instr × Nat) := [(.aload_n 1, 1), (.aload_n 0, 1), (.iload 5, 2), (.iconst 1, 1), (.iadd, 1), (.iaload, 1), (.aload_n 3, 1), (.invokestatic 193, 3), (.istore 6, 2), (.aload_n 2, 1), (.aload_n 0, 1), (.iload 5, 2), (.iconst 1, 1), (.iadd, 1), (.iaload, 1), (.invokevirtual 196, 3), (.istore 7, 2), (.aload_n 2, 1), (.invokevirtual 183, 3), (.iload 6, 2), (.if_icmp .eq 5, 3), (.iconst 0, 1), (.ireturn, 1)]
set_option maxRecDepth 100000 in
theorem fb_11 : Jvm.Free.DS.Facts code 520 rw_11 := Jvm.Free.DS.facts 520 rw_11 (by decide +kernel) (by decide +kernel)
set_option maxRecDepth 100000 in
theorem cl_11 : okK 301 cod_301 b_301_11 = true := okK_of (t := rw_11) fb_11 (by decide +kernel)
noncomputable def rw_12 : List (Instr × Nat) := [(.iload 6, 2), (.ifCond .ne 15, 3), (.aload_n 3, 1), (.iconst 0, 1), (.laload, 1), (.iload 7, 2), (.i2l, 1), (.lcmp, 1), (.ifCond .eq 5, 3), (.iconst 0, 1), (.ireturn, 1)]
set_option maxRecDepth 100000 in
theorem fb_12 : Jvm.Free.DS.Facts code 556 rw_12 := Jvm.Free.DS.facts 556 rw_12 (by decide +kernel) (by decide +kernel)
set_option maxRecDepth 100000 in
theorem cl_12 : okK 301 cod_301 b_301_12 = true := okK_of (t := rw_12) fb_12 (by decide +kernel)
noncomputable def rw_13 : List (Instr × Nat) := [(.goto 3359, 3)]
set_option maxRecDepth 100000 in
theorem fb_13 : Jvm.Free.DS.Facts code 573 rw_13 := Jvm.Free.DS.facts 573 rw_13 (by decide +kernel) (by decide +kernel)
set_option maxRecDepth 100000 in
theorem cl_13 : okK 301 cod_301 b_301_13 = true := okK_of (t := rw_13) fb_13 (by decide +kernel)
noncomputable def rw_14 : List (Instr × Nat) := [(.aload_n 1, 1), (.aload_n 0, 1), (.iload 5, 2), (.iconst 1, 1), (.iadd, 1), (.iaload, 1), (.aload_n 0, 1), (.iload 5, 2), (.iconst 2, 1), (.iadd, 1), (.iaload, 1), (.aload_n 0, 1), (.iload 5, 2), (.iconst 3, 1), (.iadd, 1), (.iaload, 1), (.aload_n 0, 1), (.iload 5, 2), (.iconst 4, 1), (.iadd, 1), (.iaload, 1), (.aload_n 0, 1), (.iload 5, 2), (.iconst 5, 1), (.iadd, 1), (.iaload, 1), (.aload_n 3, 1), (.invokestatic 197, 3), (.istore 6, 2), (.aload_n 2, 1), (.aload_n 0, 1), (.iload 5, 2), (.iconst 1, 1), (.iadd, 1), (.iaload, 1), (.aload_n 0, 1), (.iload 5, 2), (.iconst 2, 1), (.iadd, 1), (.iaload, 1), (.aload_n 0, 1), (.iload 5, 2), (.iconst 3, 1), (.iadd, 1), (.iaload, 1), (.aload_n 0, 1), (.iload 5, 2), (.iconst 4, 1), (.iadd, 1), (.iaload, 1), (.aload_n 0, 1), (.iload 5, 2), (.iconst 5, 1), (.iadd, 1), (.iaload, 1), (.invokevirtual 200, 3), (.istore 7, 2), (.aload_n 2, 1), (.invokevirtual 183, 3), (.iload 6, 2), (.if_icmp .eq 5, 3), (.iconst 0, 1), (.ireturn, 1)]
set_option maxRecDepth 100000 in
theorem fb_14 : Jvm.Free.DS.Facts code 576 rw_14 := Jvm.Free.DS.facts 576 rw_14 (by decide +kernel) (by decide +kernel)
set_option maxRecDepth 100000 in
theorem cl_14 : okK 301 cod_301 b_301_14 = true := okK_of (t := rw_14) fb_14 (by decide +kernel)
noncomputable def rw_15 : List (Instr × Nat) := [(.iload 6, 2), (.ifCond .ne 15, 3), (.aload_n 3, 1), (.iconst 0, 1), (.laload, 1), (.iload 7, 2), (.i2l, 1), (.lcmp, 1), (.ifCond .eq 5, 3), (.iconst 0, 1), (.ireturn, 1)]
set_option maxRecDepth 100000 in
theorem fb_15 : Jvm.Free.DS.Facts code 660 rw_15 := Jvm.Free.DS.facts 660 rw_15 (by decide +kernel) (by decide +kernel)
set_option maxRecDepth 100000 in
theorem cl_15 : okK 301 cod_301 b_301_15 = true := okK_of (t := rw_15) fb_15 (by decide +kernel)
noncomputable def rw_16 : List (Instr × Nat) := [(.goto 3255, 3)]
set_option maxRecDepth 100000 in
theorem fb_16 : Jvm.Free.DS.Facts code 677 rw_16 := Jvm.Free.DS.facts 677 rw_16 (by decide +kernel) (by decide +kernel)
set_option maxRecDepth 100000 in
theorem cl_16 : okK 301 cod_301 b_301_16 = true := okK_of (t := rw_16) fb_16 (by decide +kernel)
noncomputable def rw_17 : List (Instr × Nat) := [(.aload_n 1, 1), (.aload_n 0, 1), (.iload 5, 2), (.iconst 1, 1), (.iadd, 1), (.iaload, 1), (.aload_n 0, 1), (.iload 5, 2), (.iconst 2, 1), (.iadd, 1), (.iaload, 1), (.aload_n 0, 1), (.iload 5, 2), (.iconst 3, 1), (.iadd, 1), (.iaload, 1), (.aload_n 0, 1), (.iload 5, 2), (.iconst 4, 1), (.iadd, 1), (.iaload, 1), (.aload_n 3, 1), (.invokestatic 201, 3), (.istore 6, 2), (.aload_n 2, 1), (.aload_n 0, 1), (.iload 5, 2), (.iconst 1, 1), (.iadd, 1), (.iaload, 1), (.aload_n 0, 1), (.iload 5, 2), (.iconst 2, 1), (.iadd, 1), (.iaload, 1), (.aload_n 0, 1), (.iload 5, 2), (.iconst 3, 1), (.iadd, 1), (.iaload, 1), (.aload_n 0, 1), (.iload 5, 2), (.iconst 4, 1), (.iadd, 1), (.iaload, 1), (.invokevirtual 203, 3), (.istore 7, 2), (.aload_n 2, 1), (.invokevirtual 183, 3), (.iload 6, 2), (.if_icmp .eq 5, 3), (.iconst 0, 1), (.ireturn, 1)]
set_option maxRecDepth 100000 in
theorem fb_17 : Jvm.Free.DS.Facts code 680 rw_17 := Jvm.Free.DS.facts 680 rw_17 (by decide +kernel) (by decide +kernel)
set_option maxRecDepth 100000 in
theorem cl_17 : okK 301 cod_301 b_301_17 = true := okK_of (t := rw_17) fb_17 (by decide +kernel)
noncomputable def rw_18 : List (Instr × Nat) := [(.iload 6, 2), (.ifCond .ne 15, 3), (.aload_n 3, 1), (.iconst 0, 1), (.laload, 1), (.iload 7, 2), (.i2l, 1), (.lcmp, 1), (.ifCond .eq 5, 3), (.iconst 0, 1), (.ireturn, 1)]
set_option maxRecDepth 100000 in
theorem fb_18 : Jvm.Free.DS.Facts code 752 rw_18 := Jvm.Free.DS.facts 752 rw_18 (by decide +kernel) (by decide +kernel)
set_option maxRecDepth 100000 in
theorem cl_18 : okK 301 cod_301 b_301_18 = true := okK_of (t := rw_18) fb_18 (by decide +kernel)
noncomputable def rw_19 : List (Instr × Nat) := [(.goto 3163, 3)]
set_option maxRecDepth 100000 in
theorem fb_19 : Jvm.Free.DS.Facts code 769 rw_19 := Jvm.Free.DS.facts 769 rw_19 (by decide +kernel) (by decide +kernel)
set_option maxRecDepth 100000 in
theorem cl_19 : okK 301 cod_301 b_301_19 = true := okK_of (t := rw_19) fb_19 (by decide +kernel)
noncomputable def rw_20 : List (Instr × Nat) := [(.aload_n 1, 1), (.aload_n 0, 1), (.iload 5, 2), (.iconst 1, 1), (.iadd, 1), (.iaload, 1), (.aload_n 0, 1), (.iload 5, 2), (.iconst 2, 1), (.iadd, 1), (.iaload, 1), (.aload_n 0, 1), (.iload 5, 2), (.iconst 3, 1), (.iadd, 1), (.iaload, 1), (.aload_n 0, 1), (.iload 5, 2), (.iconst 4, 1), (.iadd, 1), (.iaload, 1), (.aload_n 3, 1), (.invokestatic 204, 3), (.istore 6, 2), (.aload_n 2, 1), (.aload_n 0, 1), (.iload 5, 2), (.iconst 1, 1), (.iadd, 1), (.iaload, 1), (.aload_n 0, 1), (.iload 5, 2), (.iconst 2, 1), (.iadd, 1), (.iaload, 1), (.aload_n 0, 1), (.iload 5, 2), (.iconst 3, 1), (.iadd, 1), (.iaload, 1), (.aload_n 0, 1), (.iload 5, 2), (.iconst 4, 1), (.iadd, 1), (.iaload, 1), (.invokevirtual 206, 3), (.istore 7, 2), (.aload_n 2, 1), (.invokevirtual 183, 3), (.iload 6, 2), (.if_icmp .eq 5, 3), (.iconst 0, 1), (.ireturn, 1)]
set_option maxRecDepth 100000 in
theorem fb_20 : Jvm.Free.DS.Facts code 772 rw_20 := Jvm.Free.DS.facts 772 rw_20 (by decide +kernel) (by decide +kernel)
set_option maxRecDepth 100000 in
theorem cl_20 : okK 301 cod_301 b_301_20 = true := okK_of (t := rw_20) fb_20 (by decide +kernel)
noncomputable def rw_21 : List (Instr × Nat) := [(.iload 6, 2), (.ifCond .ne 15, 3), (.aload_n 3, 1), (.iconst 0, 1), (.laload, 1), (.iload 7, 2), (.i2l, 1), (.lcmp, 1), (.ifCond .eq 5, 3), (.iconst 0, 1), (.ireturn, 1)]
set_option maxRecDepth 100000 in
theorem fb_21 : Jvm.Free.DS.Facts code 844 rw_21 := Jvm.Free.DS.facts 844 rw_21 (by decide +kernel) (by decide +kernel)
set_option maxRecDepth 100000 in
theorem cl_21 : okK 301 cod_301 b_301_21 = true := okK_of (t := rw_21) fb_21 (by decide +kernel)
noncomputable def rw_22 : List (Instr × Nat) := [(.goto 3071, 3)]
set_option maxRecDepth 100000 in
theorem fb_22 : Jvm.Free.DS.Facts code 861 rw_22 := Jvm.Free.DS.facts 861 rw_22 (by decide +kernel) (by decide +kernel)
set_option maxRecDepth 100000 in
theorem cl_22 : okK 301 cod_301 b_301_22 = true := okK_of (t := rw_22) fb_22 (by decide +kernel)
noncomputable def rw_23 : List (Instr × Nat) := [(.aload_n 1, 1), (.aload_n 0, 1), (.iload 5, 2), (.iconst 1, 1), (.iadd, 1), (.iaload, 1), (.aload_n 0, 1), (.iload 5, 2), (.iconst 2, 1), (.iadd, 1), (.iaload, 1), (.aload_n 0, 1), (.iload 5, 2), (.iconst 3, 1), (.iadd, 1), (.iaload, 1), (.aload_n 3, 1), (.invokestatic 207, 3), (.istore 6, 2), (.aload_n 2, 1), (.aload_n 0, 1), (.iload 5, 2), (.iconst 1, 1), (.iadd, 1), (.iaload, 1), (.aload_n 0, 1), (.iload 5, 2), (.iconst 2, 1), (.iadd, 1), (.iaload, 1), (.aload_n 0, 1), (.iload 5, 2), (.iconst 3, 1), (.iadd, 1), (.iaload, 1), (.invokevirtual 209, 3), (.istore 7, 2), (.aload_n 2, 1), (.invokevirtual 183, 3), (.iload 6, 2), (.if_icmp .eq 5, 3), (.iconst 0, 1), (.ireturn, 1)]
set_option maxRecDepth 100000 in
theorem fb_23 : Jvm.Free.DS.Facts code 864 rw_23 := Jvm.Free.DS.facts 864 rw_23 (by decide +kernel) (by decide +kernel)
set_option maxRecDepth 100000 in
theorem cl_23 : okK 301 cod_301 b_301_23 = true := okK_of (t := rw_23) fb_23 (by decide +kernel)
noncomputable def rw_24 : List (Instr × Nat) := [(.iload 6, 2), (.ifCond .ne 15, 3), (.aload_n 3, 1), (.iconst 0, 1), (.laload, 1), (.iload 7, 2), (.i2l, 1), (.lcmp, 1), (.ifCond .eq 5, 3), (.iconst 0, 1), (.ireturn, 1)]
set_option maxRecDepth 100000 in
theorem fb_24 : Jvm.Free.DS.Facts code 924 rw_24 := Jvm.Free.DS.facts 924 rw_24 (by decide +kernel) (by decide +kernel)
set_option maxRecDepth 100000 in
theorem cl_24 : okK 301 cod_301 b_301_24 = true := okK_of (t := rw_24) fb_24 (by decide +kernel)
noncomputable def rw_25 : List (Instr × Nat) := [(.goto 2991, 3)]
set_option maxRecDepth 100000 in
theorem fb_25 : Jvm.Free.DS.Facts code 941 rw_25 := Jvm.Free.DS.facts 941 rw_25 (by decide +kernel) (by decide +kernel)
set_option maxRecDepth 100000 in
theorem cl_25 : okK 301 cod_301 b_301_25 = true := okK_of (t := rw_25) fb_25 (by decide +kernel)
noncomputable def rw_26 : List (Instr × Nat) := [(.aload_n 1, 1), (.aload_n 0, 1), (.iload 5, 2), (.iconst 1, 1), (.iadd, 1), (.iaload, 1), (.aload_n 3, 1), (.invokestatic 210, 3), (.istore 6, 2), (.aload_n 2, 1), (.aload_n 0, 1), (.iload 5, 2), (.iconst 1, 1), (.iadd, 1), (.iaload, 1), (.invokevirtual 212, 3), (.istore 7, 2), (.aload_n 2, 1), (.invokevirtual 183, 3), (.iload 6, 2), (.if_icmp .eq 5, 3), (.iconst 0, 1), (.ireturn, 1)]
set_option maxRecDepth 100000 in
theorem fb_26 : Jvm.Free.DS.Facts code 944 rw_26 := Jvm.Free.DS.facts 944 rw_26 (by decide +kernel) (by decide +kernel)
set_option maxRecDepth 100000 in
theorem cl_26 : okK 301 cod_301 b_301_26 = true := okK_of (t := rw_26) fb_26 (by decide +kernel)
noncomputable def rw_27 : List (Instr × Nat) := [(.iload 6, 2), (.ifCond .ne 15, 3), (.aload_n 3, 1), (.iconst 0, 1), (.laload, 1), (.iload 7, 2), (.i2l, 1), (.lcmp, 1), (.ifCond .eq 5, 3), (.iconst 0, 1), (.ireturn, 1)]
set_option maxRecDepth 100000 in
theorem fb_27 : Jvm.Free.DS.Facts code 980 rw_27 := Jvm.Free.DS.facts 980 rw_27 (by decide +kernel) (by decide +kernel)
set_option maxRecDepth 100000 in
theorem cl_27 : okK 301 cod_301 b_301_27 = true := okK_of (t := rw_27) fb_27 (by decide +kernel)
noncomputable def rw_28 : List (Instr × Nat) := [(.goto 2935, 3)]
set_option maxRecDepth 100000 in
theorem fb_28 : Jvm.Free.DS.Facts code 997 rw_28 := Jvm.Free.DS.facts 997 rw_28 (by decide +kernel) (by decide +kernel)
set_option maxRecDepth 100000 in
theorem cl_28 : okK 301 cod_301 b_301_28 = true := okK_of (t := rw_28) fb_28 (by decide +kernel)
noncomputable def rw_29 : List (Instr × Nat) := [(.aload_n 1, 1), (.aload_n 0, 1), (.iload 5, 2), (.iconst 1, 1), (.iadd, 1), (.iaload, 1), (.aload_n 0, 1), (.iload 5, 2), (.iconst 2, 1), (.iadd, 1), (.iaload, 1), (.aload_n 3, 1), (.invokestatic 213, 3), (.istore 6, 2), (.aload_n 2, 1), (.aload_n 0, 1), (.iload 5, 2), (.iconst 1, 1), (.iadd, 1), (.iaload, 1), (.aload_n 0, 1), (.iload 5, 2), (.iconst 2, 1), (.iadd, 1), (.iaload, 1), (.invokevirtual 216, 3), (.istore 7, 2), (.aload_n 2, 1), (.invokevirtual 183, 3), (.iload 6, 2), (.if_icmp .eq 5, 3), (.iconst 0, 1), (.ireturn, 1)]
set_option maxRecDepth 100000 in
theorem fb_29 : Jvm.Free.DS.Facts code 1000 rw_29 := Jvm.Free.DS.facts 1000 rw_29 (by decide +kernel) (by decide +kernel)
set_option maxRecDepth 100000 in
theorem cl_29 : okK 301 cod_301 b_301_29 = true := okK_of (t := rw_29) fb_29 (by decide +kernel)
noncomputable def rw_30 : List (Instr × Nat) := [(.iload 6, 2), (.ifCond .ne 15, 3), (.aload_n 3, 1), (.iconst 0, 1), (.laload, 1), (.iload 7, 2), (.i2l, 1), (.lcmp, 1), (.ifCond .eq 5, 3), (.iconst 0, 1), (.ireturn, 1)]
set_option maxRecDepth 100000 in
theorem fb_30 : Jvm.Free.DS.Facts code 1048 rw_30 := Jvm.Free.DS.facts 1048 rw_30 (by decide +kernel) (by decide +kernel)
set_option maxRecDepth 100000 in
theorem cl_30 : okK 301 cod_301 b_301_30 = true := okK_of (t := rw_30) fb_30 (by decide +kernel)
noncomputable def rw_31 : List (Instr × Nat) := [(.goto 2867, 3)]
set_option maxRecDepth 100000 in
theorem fb_31 : Jvm.Free.DS.Facts code 1065 rw_31 := Jvm.Free.DS.facts 1065 rw_31 (by decide +kernel) (by decide +kernel)
set_option maxRecDepth 100000 in
theorem cl_31 : okK 301 cod_301 b_301_31 = true := okK_of (t := rw_31) fb_31 (by decide +kernel)
noncomputable def rw_32 : List (Instr × Nat) := [(.aload_n 1, 1), (.aload_n 0, 1), (.iload 5, 2), (.iconst 1, 1), (.iadd, 1), (.iaload, 1), (.aload_n 0, 1), (.iload 5, 2), (.iconst 2, 1), (.iadd, 1), (.iaload, 1), (.aload_n 0, 1), (.iload 5, 2), (.iconst 3, 1), (.iadd, 1), (.iaload, 1), (.ifCond .eq 7, 3), (.iconst 1, 1), (.goto 4, 3)]
set_option maxRecDepth 100000 in
theorem fb_32 : Jvm.Free.DS.Facts code 1068 rw_32 := Jvm.Free.DS.facts 1068 rw_32 (by decide +kernel) (by decide +kernel)
set_option maxRecDepth 100000 in
theorem cl_32 : okK 301 cod_301 b_301_32 = true := okK_of (t := rw_32) fb_32 (by decide +kernel)
noncomputable def rw_33 : List (Instr × Nat) := [(.iconst 0, 1)]
set_option maxRecDepth 100000 in
theorem fb_33 : Jvm.Free.DS.Facts code 1094 rw_33 := Jvm.Free.DS.facts 1094 rw_33 (by decide +kernel) (by decide +kernel)
set_option maxRecDepth 100000 in
theorem cl_33 : okK 301 cod_301 b_301_33 = true := okK_of (t := rw_33) fb_33 (by decide +kernel)
noncomputable def rw_34 : List (Instr × Nat) := [(.aload_n 3, 1), (.invokestatic 217, 3), (.istore 6, 2), (.aload_n 2, 1), (.aload_n 0, 1), (.iload 5, 2), (.iconst 1, 1), (.iadd, 1), (.iaload, 1), (.aload_n 0, 1), (.iload 5, 2), (.iconst 2, 1), (.iadd, 1), (.iaload, 1), (.aload_n 0, 1), (.iload 5, 2), (.iconst 3, 1), (.iadd, 1), (.iaload, 1), (.ifCond .eq 7, 3), (.iconst 1, 1), (.goto 4, 3)]
set_option maxRecDepth 100000 in
theorem fb_34 : Jvm.Free.DS.Facts code 1095 rw_34 := Jvm.Free.DS.facts 1095 rw_34 (by decide +kernel) (by decide +kernel)
set_option maxRecDepth 100000 in
theorem cl_34 : okK 301 cod_301 b_301_34 = true := okK_of (t := rw_34) fb_34 (by decide +kernel)
noncomputable def rw_35 : List (Instr × Nat) := [(.iconst 0, 1)]
set_option maxRecDepth 100000 in
theorem fb_35 : Jvm.Free.DS.Facts code 1127 rw_35 := Jvm.Free.DS.facts 1127 rw_35 (by decide +kernel) (by decide +kernel)
set_option maxRecDepth 100000 in
theorem cl_35 : okK 301 cod_301 b_301_35 = true := okK_of (t := rw_35) fb_35 (by decide +kernel)
noncomputable def rw_36 : List (Instr × Nat) := [(.invokevirtual 220, 3), (.istore 7, 2), (.aload_n 2, 1), (.invokevirtual 183, 3), (.iload 6, 2), (.if_icmp .eq 5, 3), (.iconst 0, 1), (.ireturn, 1)]
set_option maxRecDepth 100000 in
theorem fb_36 : Jvm.Free.DS.Facts code 1128 rw_36 := Jvm.Free.DS.facts 1128 rw_36 (by decide +kernel) (by decide +kernel)
set_option maxRecDepth 100000 in
theorem cl_36 : okK 301 cod_301 b_301_36 = true := okK_of (t := rw_36) fb_36 (by decide +kernel)
noncomputable def rw_37 : List (Instr × Nat) := [(.iload 6, 2), (.ifCond .ne 22, 3), (.aload_n 3, 1), (.iconst 0, 1), (.laload, 1), (.iload 7, 2), (.ifCond .eq 7, 3), (.lconst 1, 1), (.goto 4, 3)]
set_option maxRecDepth 100000 in
theorem fb_37 : Jvm.Free.DS.Facts code 1144 rw_37 := Jvm.Free.DS.facts 1144 rw_37 (by decide +kernel) (by decide +kernel)
set_option maxRecDepth 100000 in
theorem cl_37 : okK 301 cod_301 b_301_37 = true := okK_of (t := rw_37) fb_37 (by decide +kernel)
noncomputable def rw_38 : List (Instr × Nat) := [(.lconst 0, 1)]
set_option maxRecDepth 100000 in
theorem fb_38 : Jvm.Free.DS.Facts code 1161 rw_38 := Jvm.Free.DS.facts 1161 rw_38 (by decide +kernel) (by decide +kernel)
set_option maxRecDepth 100000 in
theorem cl_38 : okK 301 cod_301 b_301_38 = true := okK_of (t := rw_38) fb_38 (by decide +kernel)
noncomputable def rw_39 : List (Instr × Nat) := [(.lcmp, 1), (.ifCond .eq 5, 3), (.iconst 0, 1), (.ireturn, 1)]
set_option maxRecDepth 100000 in
theorem fb_39 : Jvm.Free.DS.Facts code 1162 rw_39 := Jvm.Free.DS.facts 1162 rw_39 (by decide +kernel) (by decide +kernel)
set_option maxRecDepth 100000 in
theorem cl_39 : okK 301 cod_301 b_301_39 = true := okK_of (t := rw_39) fb_39 (by decide +kernel)
noncomputable def rw_40 : List (Instr × Nat) := [(.goto 2764, 3)]
set_option maxRecDepth 100000 in
theorem fb_40 : Jvm.Free.DS.Facts code 1168 rw_40 := Jvm.Free.DS.facts 1168 rw_40 (by decide +kernel) (by decide +kernel)
set_option maxRecDepth 100000 in
theorem cl_40 : okK 301 cod_301 b_301_40 = true := okK_of (t := rw_40) fb_40 (by decide +kernel)
noncomputable def rw_41 : List (Instr × Nat) := [(.aload_n 1, 1), (.aload_n 0, 1), (.iload 5, 2), (.iconst 1, 1), (.iadd, 1), (.iaload, 1), (.aload_n 0, 1), (.iload 5, 2), (.iconst 2, 1), (.iadd, 1), (.iaload, 1), (.aload_n 0, 1), (.iload 5, 2), (.iconst 3, 1), (.iadd, 1), (.iaload, 1), (.aload_n 3, 1), (.invokestatic 221, 3), (.istore 6, 2), (.aload_n 2, 1), (.aload_n 0, 1), (.iload 5, 2), (.iconst 1, 1), (.iadd, 1), (.iaload, 1), (.aload_n 0, 1), (.iload 5, 2), (.iconst 2, 1), (.iadd, 1), (.iaload, 1), (.aload_n 0, 1), (.iload 5, 2), (.iconst 3, 1), (.iadd, 1), (.iaload, 1), (.invokevirtual 223, 3), (.istore 7, 2), (.aload_n 2, 1), (.invokevirtual 183, 3), (.iload 6, 2), (.if_icmp .eq 5, 3), (.iconst 0, 1), (.ireturn, 1)]
set_option maxRecDepth 100000 in
theorem fb_41 : Jvm.Free.DS.Facts code 1171 rw_41 := Jvm.Free.DS.facts 1171 rw_41 (by decide +kernel) (by decide +kernel)
set_option maxRecDepth 100000 in
theorem cl_41 : okK 301 cod_301 b_301_41 = true := okK_of (t := rw_41) fb_41 (by decide +kernel)
noncomputable def rw_42 : List (Instr × Nat) := [(.iload 6, 2), (.ifCond .ne 15, 3), (.aload_n 3, 1), (.iconst 0, 1), (.laload, 1), (.iload 7, 2), (.i2l, 1), (.lcmp, 1), (.ifCond .eq 5, 3), (.iconst 0, 1), (.ireturn, 1)]
set_option maxRecDepth 100000 in
theorem fb_42 : Jvm.Free.DS.Facts code 1231 rw_42 := Jvm.Free.DS.facts 1231 rw_42 (by decide +kernel) (by decide +kernel)
set_option maxRecDepth 100000 in
theorem cl_42 : okK 301 cod_301 b_301_42 = true := okK_of (t := rw_42) fb_42 (by decide +kernel)
noncomputable def rw_43 : List (Instr × Nat) := [(.goto 2684, 3)]
set_option maxRecDepth 100000 in
theorem fb_43 : Jvm.Free.DS.Facts code 1248 rw_43 := Jvm.Free.DS.facts 1248 rw_43 (by decide +kernel) (by decide +kernel)
set_option maxRecDepth 100000 in
theorem cl_43 : okK 301 cod_301 b_301_43 = true := okK_of (t := rw_43) fb_43 (by decide +kernel)
noncomputable def rw_44 : List (Instr × Nat) := [(.aload_n 1, 1), (.aload_n 0, 1), (.iload 5, 2), (.iconst 1, 1), (.iadd, 1), (.iaload, 1), (.aload_n 0, 1), (.iload 5, 2), (.iconst 2, 1), (.iadd, 1), (.iaload, 1), (.aload_n 0, 1), (.iload 5, 2), (.iconst 3, 1), (.iadd, 1), (.iaload, 1), (.aload_n 0, 1), (.iload 5, 2), (.iconst 4, 1), (.iadd, 1), (.iaload, 1), (.aload_n 0, 1), (.iload 5, 2), (.iconst 5, 1), (.iadd, 1), (.iaload, 1), (.aload_n 3, 1), (.invokestatic 224, 3), (.istore 6, 2), (.aload_n 2, 1), (.aload_n 0, 1), (.iload 5, 2), (.iconst 1, 1), (.iadd, 1), (.iaload, 1), (.aload_n 0, 1), (.iload 5, 2), (.iconst 2, 1), (.iadd, 1), (.iaload, 1), (.aload_n 0, 1), (.iload 5, 2), (.iconst 3, 1), (.iadd, 1), (.iaload, 1), (.aload_n 0, 1), (.iload 5, 2), (.iconst 4, 1), (.iadd, 1), (.iaload, 1), (.aload_n 0, 1), (.iload 5, 2), (.iconst 5, 1), (.iadd, 1), (.iaload, 1), (.invokevirtual 226, 3), (.istore 7, 2), (.aload_n 2, 1), (.invokevirtual 183, 3), (.iload 6, 2), (.if_icmp .eq 5, 3), (.iconst 0, 1), (.ireturn, 1)]
set_option maxRecDepth 100000 in
theorem fb_44 : Jvm.Free.DS.Facts code 1251 rw_44 := Jvm.Free.DS.facts 1251 rw_44 (by decide +kernel) (by decide +kernel)
set_option maxRecDepth 100000 in
theorem cl_44 : okK 301 cod_301 b_301_44 = true := okK_of (t := rw_44) fb_44 (by decide +kernel)
noncomputable def rw_45 : List (Instr × Nat) := [(.iload 6, 2), (.ifCond .ne 15, 3), (.aload_n 3, 1), (.iconst 0, 1), (.laload, 1), (.iload 7, 2), (.i2l, 1), (.lcmp, 1), (.ifCond .eq 5, 3), (.iconst 0, 1), (.ireturn, 1)]
set_option maxRecDepth 100000 in
theorem fb_45 : Jvm.Free.DS.Facts code 1335 rw_45 := Jvm.Free.DS.facts 1335 rw_45 (by decide +kernel) (by decide +kernel)
set_option maxRecDepth 100000 in
theorem cl_45 : okK 301 cod_301 b_301_45 = true := okK_of (t := rw_45) fb_45 (by decide +kernel)
noncomputable def rw_46 : List (Instr × Nat) := [(.goto 2580, 3)]
set_option maxRecDepth 100000 in
theorem fb_46 : Jvm.Free.DS.Facts code 1352 rw_46 := Jvm.Free.DS.facts 1352 rw_46 (by decide +kernel) (by decide +kernel)
set_option maxRecDepth 100000 in
theorem cl_46 : okK 301 cod_301 b_301_46 = true := okK_of (t := rw_46) fb_46 (by decide +kernel)
noncomputable def rw_47 : List (Instr × Nat) := [(.aload_n 1, 1), (.aload_n 0, 1), (.iload 5, 2), (.iconst 1, 1), (.iadd, 1), (.iaload, 1), (.aload_n 3, 1), (.invokestatic 227, 3), (.istore 6, 2), (.aload_n 2, 1), (.aload_n 0, 1), (.iload 5, 2), (.iconst 1, 1), (.iadd, 1), (.iaload, 1), (.invokevirtual 229, 3), (.istore 7, 2), (.aload_n 2, 1), (.invokevirtual 183, 3), (.iload 6, 2), (.if_icmp .eq 5, 3), (.iconst 0, 1), (.ireturn, 1)]
set_option maxRecDepth 100000 in
theorem fb_47 : Jvm.Free.DS.Facts code 1355 rw_47 := Jvm.Free.DS.facts 1355 rw_47 (by decide +kernel) (by decide +kernel)
set_option maxRecDepth 100000 in
theorem cl_47 : okK 301 cod_301 b_301_47 = true := okK_of (t := rw_47) fb_47 (by decide +kernel)
noncomputable def rw_48 : List (Instr × Nat) := [(.iload 6, 2), (.ifCond .ne 15, 3), (.aload_n 3, 1), (.iconst 0, 1), (.laload, 1), (.iload 7, 2), (.i2l, 1), (.lcmp, 1), (.ifCond .eq 5, 3), (.iconst 0, 1), (.ireturn, 1)]
set_option maxRecDepth 100000 in
theorem fb_48 : Jvm.Free.DS.Facts code 1391 rw_48 := Jvm.Free.DS.facts 1391 rw_48 (by decide +kernel) (by decide +kernel)
set_option maxRecDepth 100000 in
theorem cl_48 : okK 301 cod_301 b_301_48 = true := okK_of (t := rw_48) fb_48 (by decide +kernel)
noncomputable def rw_49 : List (Instr × Nat) := [(.goto 2524, 3)]
set_option maxRecDepth 100000 in
theorem fb_49 : Jvm.Free.DS.Facts code 1408 rw_49 := Jvm.Free.DS.facts 1408 rw_49 (by decide +kernel) (by decide +kernel)
set_option maxRecDepth 100000 in
theorem cl_49 : okK 301 cod_301 b_301_49 = true := okK_of (t := rw_49) fb_49 (by decide +kernel)
noncomputable def rw_50 : List (Instr × Nat) := [(.aload_n 1, 1), (.aload_n 0, 1), (.iload 5, 2), (.iconst 1, 1), (.iadd, 1), (.iaload, 1), (.aload_n 0, 1), (.iload 5, 2), (.iconst 2, 1), (.iadd, 1), (.iaload, 1), (.aload_n 3, 1), (.invokestatic 230, 3), (.istore 6, 2), (.aload_n 2, 1), (.aload_n 0, 1), (.iload 5, 2), (.iconst 1, 1), (.iadd, 1), (.iaload, 1), (.aload_n 0, 1), (.iload 5, 2), (.iconst 2, 1), (.iadd, 1), (.iaload, 1), (.invokevirtual 232, 3), (.istore 7, 2), (.aload_n 2, 1), (.invokevirtual 183, 3), (.iload 6, 2), (.if_icmp .eq 5, 3), (.iconst 0, 1), (.ireturn, 1)]
set_option maxRecDepth 100000 in
theorem fb_50 : Jvm.Free.DS.Facts code 1411 rw_50 := Jvm.Free.DS.facts 1411 rw_50 (by decide +kernel) (by decide +kernel)
set_option maxRecDepth 100000 in
theorem cl_50 : okK 301 cod_301 b_301_50 = true := okK_of (t := rw_50) fb_50 (by decide +kernel)
noncomputable def rw_51 : List (Instr × Nat) := [(.iload 6, 2), (.ifCond .ne 15, 3), (.aload_n 3, 1), (.iconst 0, 1), (.laload, 1), (.iload 7, 2), (.i2l, 1), (.lcmp, 1), (.ifCond .eq 5, 3), (.iconst 0, 1), (.ireturn, 1)]
set_option maxRecDepth 100000 in
theorem fb_51 : Jvm.Free.DS.Facts code 1459 rw_51 := Jvm.Free.DS.facts 1459 rw_51 (by decide +kernel) (by decide +kernel)
set_option maxRecDepth 100000 in
theorem cl_51 : okK 301 cod_301 b_301_51 = true := okK_of (t := rw_51) fb_51 (by decide +kernel)
noncomputable def rw_52 : List (Instr × Nat) := [(.goto 2456, 3)]
set_option maxRecDepth 100000 in
theorem fb_52 : Jvm.Free.DS.Facts code 1476 rw_52 := Jvm.Free.DS.facts 1476 rw_52 (by decide +kernel) (by decide +kernel)
set_option maxRecDepth 100000 in
theorem cl_52 : okK 301 cod_301 b_301_52 = true := okK_of (t := rw_52) fb_52 (by decide +kernel)
noncomputable def rw_53 : List (Instr × Nat) := [(.aload_n 1, 1), (.aload_n 0, 1), (.iload 5, 2), (.iconst 1, 1), (.iadd, 1), (.iaload, 1), (.aload_n 0, 1), (.iload 5, 2), (.iconst 2, 1), (.iadd, 1), (.iaload, 1), (.aload_n 3, 1), (.invokestatic 233, 3), (.istore 6, 2), (.aload_n 2, 1), (.aload_n 0, 1), (.iload 5, 2), (.iconst 1, 1), (.iadd, 1), (.iaload, 1), (.aload_n 0, 1), (.iload 5, 2), (.iconst 2, 1), (.iadd, 1), (.iaload, 1), (.invokevirtual 235, 3), (.istore 7, 2), (.aload_n 2, 1), (.invokevirtual 183, 3), (.iload 6, 2), (.if_icmp .eq 5, 3), (.iconst 0, 1), (.ireturn, 1)]
set_option maxRecDepth 100000 in
theorem fb_53 : Jvm.Free.DS.Facts code 1479 rw_53 := Jvm.Free.DS.facts 1479 rw_53 (by decide +kernel) (by decide +kernel)
set_option maxRecDepth 100000 in
theorem cl_53 : okK 301 cod_301 b_301_53 = true := okK_of (t := rw_53) fb_53 (by decide +kernel)
noncomputable def rw_54 : List (Instr × Nat) := [(.iload 6, 2), (.ifCond .ne 15, 3), (.aload_n 3, 1), (.iconst 0, 1), (.laload, 1), (.iload 7, 2), (.i2l, 1), (.lcmp, 1), (.ifCond .eq 5, 3), (.iconst 0, 1), (.ireturn, 1)]
set_option maxRecDepth 100000 in
theorem fb_54 : Jvm.Free.DS.Facts code 1527 rw_54 := Jvm.Free.DS.facts 1527 rw_54 (by decide +kernel) (by decide +kernel)
set_option maxRecDepth 100000 in
theorem cl_54 : okK 301 cod_301 b_301_54 = true := okK_of (t := rw_54) fb_54 (by decide +kernel)
noncomputable def rw_55 : List (Instr × Nat) := [(.goto 2388, 3)]
set_option maxRecDepth 100000 in
theorem fb_55 : Jvm.Free.DS.Facts code 1544 rw_55 := Jvm.Free.DS.facts 1544 rw_55 (by decide +kernel) (by decide +kernel)
set_option maxRecDepth 100000 in
theorem cl_55 : okK 301 cod_301 b_301_55 = true := okK_of (t := rw_55) fb_55 (by decide +kernel)
noncomputable def rw_56 : List (Instr × Nat) := [(.aload_n 1, 1), (.aload_n 0, 1), (.iload 5, 2), (.iconst 1, 1), (.iadd, 1), (.iaload, 1), (.aload_n 0, 1), (.iload 5, 2), (.iconst 2, 1), (.iadd, 1), (.iaload, 1), (.aload_n 0, 1), (.iload 5, 2), (.iconst 3, 1), (.iadd, 1), (.iaload, 1), (.aload_n 3, 1), (.invokestatic 236, 3), (.istore 6, 2), (.aload_n 2, 1), (.aload_n 0, 1), (.iload 5, 2), (.iconst 1, 1), (.iadd, 1), (.iaload, 1), (.aload_n 0, 1), (.iload 5, 2), (.iconst 2, 1), (.iadd, 1), (.iaload, 1), (.aload_n 0, 1), (.iload 5, 2), (.iconst 3, 1), (.iadd, 1), (.iaload, 1), (.invokevirtual 238, 3), (.istore 7, 2), (.aload_n 2, 1), (.invokevirtual 183, 3), (.iload 6, 2), (.if_icmp .eq 5, 3), (.iconst 0, 1), (.ireturn, 1)]
set_option maxRecDepth 100000 in
theorem fb_56 : Jvm.Free.DS.Facts code 1547 rw_56 := Jvm.Free.DS.facts 1547 rw_56 (by decide +kernel) (by decide +kernel)
set_option maxRecDepth 100000 in
theorem cl_56 : okK 301 cod_301 b_301_56 = true := okK_of (t := rw_56) fb_56 (by decide +kernel)
noncomputable def rw_57 : List (Instr × Nat) := [(.iload 6, 2), (.ifCond .ne 15, 3), (.aload_n 3, 1), (.iconst 0, 1), (.laload, 1), (.iload 7, 2), (.i2l, 1), (.lcmp, 1), (.ifCond .eq 5, 3), (.iconst 0, 1), (.ireturn, 1)]
set_option maxRecDepth 100000 in
theorem fb_57 : Jvm.Free.DS.Facts code 1607 rw_57 := Jvm.Free.DS.facts 1607 rw_57 (by decide +kernel) (by decide +kernel)
set_option maxRecDepth 100000 in
theorem cl_57 : okK 301 cod_301 b_301_57 = true := okK_of (t := rw_57) fb_57 (by decide +kernel)
noncomputable def rw_58 : List (Instr × Nat) := [(.goto 2308, 3)]
set_option maxRecDepth 100000 in
theorem fb_58 : Jvm.Free.DS.Facts code 1624 rw_58 := Jvm.Free.DS.facts 1624 rw_58 (by decide +kernel) (by decide +kernel)
set_option maxRecDepth 100000 in
theorem cl_58 : okK 301 cod_301 b_301_58 = true := okK_of (t := rw_58) fb_58 (by decide +kernel)
noncomputable def rw_59 : List (Instr × Nat) := [(.aload_n 1, 1), (.aload_n 0, 1), (.iload 5, 2), (.iconst 1, 1), (.iadd, 1), (.iaload, 1), (.aload_n 3, 1), (.invokestatic 239, 3), (.istore 6, 2), (.aload_n 2, 1), (.aload_n 0, 1), (.iload 5, 2), (.iconst 1, 1), (.iadd, 1), (.iaload, 1), (.invokevirtual 241, 3), (.istore 7, 2), (.aload_n 2, 1), (.invokevirtual 183, 3), (.iload 6, 2), (.if_icmp .eq 5, 3), (.iconst 0, 1), (.ireturn, 1)]
set_option maxRecDepth 100000 in
theorem fb_59 : Jvm.Free.DS.Facts code 1627 rw_59 := Jvm.Free.DS.facts 1627 rw_59 (by decide +kernel) (by decide +kernel)
set_option maxRecDepth 100000 in
theorem cl_59 : okK 301 cod_301 b_301_59 = true := okK_of (t := rw_59) fb_59 (by decide +kernel)
noncomputable def rw_60 : List (Instr × Nat) := [(.iload 6, 2), (.ifCond .ne 15, 3), (.aload_n 3, 1), (.iconst 0, 1), (.laload, 1), (.iload 7, 2), (.i2l, 1), (.lcmp, 1), (.ifCond .eq 5, 3), (.iconst 0, 1), (.ireturn, 1)]
set_option maxRecDepth 100000 in
theorem fb_60 : Jvm.Free.DS.Facts code 1663 rw_60 := Jvm.Free.DS.facts 1663 rw_60 (by decide +kernel) (by decide +kernel)
set_option maxRecDepth 100000 in
theorem cl_60 : okK 301 cod_301 b_301_60 = true := okK_of (t := rw_60) fb_60 (by decide +kernel)
noncomputable def rw_61 : List (Instr × Nat) := [(.goto 2252, 3)]
set_option maxRecDepth 100000 in
theorem fb_61 : Jvm.Free.DS.Facts code 1680 rw_61 := Jvm.Free.DS.facts 1680 rw_61 (by decide +kernel) (by decide +kernel)
set_option maxRecDepth 100000 in
theorem cl_61 : okK 301 cod_301 b_301_61 = true := okK_of (t := rw_61) fb_61 (by decide +kernel)
noncomputable def rw_62 : List (Instr × Nat) := [(.aload_n 1, 1), (.aload_n 0, 1), (.iload 5, 2), (.iconst 1, 1), (.iadd, 1), (.iaload, 1), (.aload_n 0, 1), (.iload 5, 2), (.iconst 2, 1), (.iadd, 1), (.iaload, 1), (.aload_n 0, 1), (.iload 5, 2), (.iconst 3, 1), (.iadd, 1), (.iaload, 1), (.aload_n 3, 1), (.invokestatic 242, 3), (.istore 6, 2), (.aload_n 2, 1), (.aload_n 0, 1), (.iload 5, 2), (.iconst 1, 1), (.iadd, 1), (.iaload, 1), (.aload_n 0, 1), (.iload 5, 2), (.iconst 2, 1), (.iadd, 1), (.iaload, 1), (.aload_n 0, 1), (.iload 5, 2), (.iconst 3, 1), (.iadd, 1), (.iaload, 1), (.invokevirtual 244, 3), (.istore 7, 2), (.aload_n 2, 1), (.invokevirtual 183, 3), (.iload 6, 2), (.if_icmp .eq 5, 3), (.iconst 0, 1), (.ireturn, 1)]
set_option maxRecDepth 100000 in
theorem fb_62 : Jvm.Free.DS.Facts code 1683 rw_62 := Jvm.Free.DS.facts 1683 rw_62 (by decide +kernel) (by decide +kernel)
set_option maxRecDepth 100000 in
theorem cl_62 : okK 301 cod_301 b_301_62 = true := okK_of (t := rw_62) fb_62 (by decide +kernel)
noncomputable def rw_63 : List (Instr × Nat) := [(.iload 6, 2), (.ifCond .ne 15, 3), (.aload_n 3, 1), (.iconst 0, 1), (.laload, 1), (.iload 7, 2), (.i2l, 1), (.lcmp, 1), (.ifCond .eq 5, 3), (.iconst 0, 1), (.ireturn, 1)]
set_option maxRecDepth 100000 in
theorem fb_63 : Jvm.Free.DS.Facts code 1743 rw_63 := Jvm.Free.DS.facts 1743 rw_63 (by decide +kernel) (by decide +kernel)
set_option maxRecDepth 100000 in
theorem cl_63 : okK 301 cod_301 b_301_63 = true := okK_of (t := rw_63) fb_63 (by decide +kernel)
noncomputable def rw_64 : List (Instr × Nat) := [(.goto 2172, 3)]
set_option maxRecDepth 100000 in
theorem fb_64 : Jvm.Free.DS.Facts code 1760 rw_64 := Jvm.Free.DS.facts 1760 rw_64 (by decide +kernel) (by decide +kernel)
set_option maxRecDepth 100000 in
theorem cl_64 : okK 301 cod_301 b_301_64 = true := okK_of (t := rw_64) fb_64 (by decide +kernel)
noncomputable def rw_65 : List (Instr × Nat) := [(.aload_n 1, 1), (.aload_n 0, 1), (.iload 5, 2), (.iconst 1, 1), (.iadd, 1), (.iaload, 1), (.aload_n 3, 1), (.invokestatic 245, 3), (.istore 6, 2), (.aload_n 2, 1), (.aload_n 0, 1), (.iload 5, 2), (.iconst 1, 1), (.iadd, 1), (.iaload, 1), (.invokevirtual 247, 3), (.istore 7, 2), (.aload_n 2, 1), (.invokevirtual 183, 3), (.iload 6, 2), (.if_icmp .eq 5, 3), (.iconst 0, 1), (.ireturn, 1)]
set_option maxRecDepth 100000 in
theorem fb_65 : Jvm.Free.DS.Facts code 1763 rw_65 := Jvm.Free.DS.facts 1763 rw_65 (by decide +kernel) (by decide +kernel)
set_option maxRecDepth 100000 in
theorem cl_65 : okK 301 cod_301 b_301_65 = true := okK_of (t := rw_65) fb_65 (by decide +kernel)
noncomputable def rw_66 : List (Instr × Nat) := [(.iload 6, 2), (.ifCond .ne 15, 3), (.aload_n 3, 1), (.iconst 0, 1), (.laload, 1), (.iload 7, 2), (.i2l, 1), (.lcmp, 1), (.ifCond .eq 5, 3), (.iconst 0, 1), (.ireturn, 1)]
set_option maxRecDepth 100000 in
theorem fb_66 : Jvm.Free.DS.Facts code 1799 rw_66 := Jvm.Free.DS.facts 1799 rw_66 (by decide +kernel) (by decide +kernel)
set_option maxRecDepth 100000 in
theorem cl_66 : okK 301 cod_301 b_301_66 = true := okK_of (t := rw_66) fb_66 (by decide +kernel)
noncomputable def rw_67 : List (Instr × Nat) := [(.goto 2116, 3)]
set_option maxRecDepth 100000 in
theorem fb_67 : Jvm.Free.DS.Facts code 1816 rw_67 := Jvm.Free.DS.facts 1816 rw_67 (by decide +kernel) (by decide +kernel)
set_option maxRecDepth 100000 in
theorem cl_67 : okK 301 cod_301 b_301_67 = true := okK_of (t := rw_67) fb_67 (by decide +kernel)
noncomputable def rw_68 : List (Instr × Nat) := [(.aload_n 1, 1), (.aload_n 3, 1), (.invokestatic 248, 3), (.istore 6, 2), (.aload_n 2, 1), (.invokevirtual 251, 3), (.istore 7, 2), (.aload_n 2, 1), (.invokevirtual 183, 3), (.iload 6, 2), (.if_icmp .eq 5, 3), (.iconst 0, 1), (.ireturn, 1)]
set_option maxRecDepth 100000 in
theorem fb_68 : Jvm.Free.DS.Facts code 1819 rw_68 := Jvm.Free.DS.facts 1819 rw_68 (by decide +kernel) (by decide +kernel)
set_option maxRecDepth 100000 in
theorem cl_68 : okK 301 cod_301 b_301_68 = true := okK_of (t := rw_68) fb_68 (by decide +kernel)
noncomputable def rw_69 : List (Instr × Nat) := [(.iload 6, 2), (.ifCond .ne 15, 3), (.aload_n 3, 1), (.iconst 0, 1), (.laload, 1), (.iload 7, 2), (.i2l, 1), (.lcmp, 1), (.ifCond .eq 5, 3), (.iconst 0, 1), (.ireturn, 1)]
set_option maxRecDepth 100000 in
theorem fb_69 : Jvm.Free.DS.Facts code 1843 rw_69 := Jvm.Free.DS.facts 1843 rw_69 (by decide +kernel) (by decide +kernel)
set_option maxRecDepth 100000 in
theorem cl_69 : okK 301 cod_301 b_301_69 = true := okK_of (t := rw_69) fb_69 (by decide +kernel)
noncomputable def rw_70 : List (Instr × Nat) := [(.goto 2072, 3)]
set_option maxRecDepth 100000 in
theorem fb_70 : Jvm.Free.DS.Facts code 1860 rw_70 := Jvm.Free.DS.facts 1860 rw_70 (by decide +kernel) (by decide +kernel)
set_option maxRecDepth 100000 in
theorem cl_70 : okK 301 cod_301 b_301_70 = true := okK_of (t := rw_70) fb_70 (by decide +kernel)
noncomputable def rw_71 : List (Instr × Nat) := [(.aload_n 1, 1), (.invokevirtual 252, 3), (.aload_n 2, 1), (.invokevirtual 255, 3), (.if_icmp .eq 2061, 3), (.iconst 0, 1), (.ireturn, 1)]
set_option maxRecDepth 100000 in
theorem fb_71 : Jvm.Free.DS.Facts code 1863 rw_71 := Jvm.Free.DS.facts 1863 rw_71 (by decide +kernel) (by decide +kernel)
set_option maxRecDepth 100000 in
theorem cl_71 : okK 301 cod_301 b_301_71 = true := okK_of (t := rw_71) fb_71 (by decide +kernel)
noncomputable def rw_72 : List (Instr × Nat) := [(.aload_n 1, 1), (.aload_n 0, 1), (.iload 5, 2), (.iconst 1, 1), (.iadd, 1), (.iaload, 1), (.aload_n 3, 1), (.invokestatic 256, 3), (.istore 6, 2), (.aload_n 2, 1), (.aload_n 0, 1), (.iload 5, 2), (.iconst 1, 1), (.iadd, 1), (.iaload, 1), (.invokevirtual 258, 3), (.istore 7, 2), (.aload_n 2, 1), (.invokevirtual 183, 3), (.iload 6, 2), (.if_icmp .eq 5, 3), (.iconst 0, 1), (.ireturn, 1)]
set_option maxRecDepth 100000 in
theorem fb_72 : Jvm.Free.DS.Facts code 1876 rw_72 := Jvm.Free.DS.facts 1876 rw_72 (by decide +kernel) (by decide +kernel)
set_option maxRecDepth 100000 in
theorem cl_72 : okK 301 cod_301 b_301_72 = true := okK_of (t := rw_72) fb_72 (by decide +kernel)
noncomputable def rw_73 : List (Instr × Nat) := [(.iload 6, 2), (.ifCond .ne 15, 3), (.aload_n 3, 1), (.iconst 0, 1), (.laload, 1), (.iload 7, 2), (.i2l, 1), (.lcmp, 1), (.ifCond .eq 5, 3), (.iconst 0, 1), (.ireturn, 1)]
set_option maxRecDepth 100000 in
theorem fb_73 : Jvm.Free.DS.Facts code 1912 rw_73 := Jvm.Free.DS.facts 1912 rw_73 (by decide +kernel) (by decide +kernel)
set_option maxRecDepth 100000 in
theorem cl_73 : okK 301 cod_301 b_301_73 = true := okK_of (t := rw_73) fb_73 (by decide +kernel)
noncomputable def rw_74 : List (Instr × Nat) := [(.goto 2003, 3)]
set_option maxRecDepth 100000 in
theorem fb_74 : Jvm.Free.DS.Facts code 1929 rw_74 := Jvm.Free.DS.facts 1929 rw_74 (by decide +kernel) (by decide +kernel)
set_option maxRecDepth 100000 in
theorem cl_74 : okK 301 cod_301 b_301_74 = true := okK_of (t := rw_74) fb_74 (by decide +kernel)
noncomputable def rw_75 : List (Instr × Nat) := [(.aload_n 1, 1), (.aload_n 0, 1), (.iload 5, 2), (.iconst 1, 1), (.iadd, 1), (.iaload, 1), (.aload_n 0, 1), (.iload 5, 2), (.iconst 2, 1), (.iadd, 1), (.iaload, 1), (.aload_n 3, 1), (.invokestatic 259, 3), (.istore 6, 2), (.aload_n 2, 1), (.aload_n 0, 1), (.iload 5, 2), (.iconst 1, 1), (.iadd, 1), (.iaload, 1), (.aload_n 0, 1), (.iload 5, 2), (.iconst 2, 1), (.iadd, 1), (.iaload, 1), (.invokevirtual 261, 3), (.istore 7, 2), (.aload_n 2, 1), (.invokevirtual 183, 3), (.iload 6, 2), (.if_icmp .eq 5, 3), (.iconst 0, 1), (.ireturn, 1)]
set_option maxRecDepth 100000 in
theorem fb_75 : Jvm.Free.DS.Facts code 1932 rw_75 := Jvm.Free.DS.facts 1932 rw_75 (by decide +kernel) (by decide +kernel)
set_option maxRecDepth 100000 in
theorem cl_75 : okK 301 cod_301 b_301_75 = true := okK_of (t := rw_75) fb_75 (by decide +kernel)
noncomputable def rw_76 : List (Instr × Nat) := [(.iload 6, 2), (.ifCond .ne 15, 3), (.aload_n 3, 1), (.iconst 0, 1), (.laload, 1), (.iload 7, 2), (.i2l, 1), (.lcmp, 1), (.ifCond .eq 5, 3), (.iconst 0, 1), (.ireturn, 1)]
set_option maxRecDepth 100000 in
theorem fb_76 : Jvm.Free.DS.Facts code 1980 rw_76 := Jvm.Free.DS.facts 1980 rw_76 (by decide +kernel) (by decide +kernel)
set_option maxRecDepth 100000 in
theorem cl_76 : okK 301 cod_301 b_301_76 = true := okK_of (t := rw_76) fb_76 (by decide +kernel)
noncomputable def rw_77 : List (Instr × Nat) := [(.goto 1935, 3)]
set_option maxRecDepth 100000 in
theorem fb_77 : Jvm.Free.DS.Facts code 1997 rw_77 := Jvm.Free.DS.facts 1997 rw_77 (by decide +kernel) (by decide +kernel)
set_option maxRecDepth 100000 in
theorem cl_77 : okK 301 cod_301 b_301_77 = true := okK_of (t := rw_77) fb_77 (by decide +kernel)
noncomputable def rw_78 : List (Instr × Nat) := [(.aload_n 1, 1), (.aload_n 0, 1), (.iload 5, 2), (.iconst 1, 1), (.iadd, 1), (.iaload, 1), (.aload_n 3, 1), (.invokestatic 262, 3), (.istore 6, 2), (.aload_n 2, 1), (.aload_n 0, 1), (.iload 5, 2), (.iconst 1, 1), (.iadd, 1), (.iaload, 1), (.invokevirtual 264, 3), (.istore 7, 2), (.aload_n 2, 1), (.invokevirtual 183, 3), (.iload 6, 2), (.if_icmp .eq 5, 3), (.iconst 0, 1), (.ireturn, 1)]
set_option maxRecDepth 100000 in
theorem fb_78 : Jvm.Free.DS.Facts code 2000 rw_78 := Jvm.Free.DS.facts 2000 rw_78 (by decide +kernel) (by decide +kernel)
set_option maxRecDepth 100000 in
theorem cl_78 : okK 301 cod_301 b_301_78 = true := okK_of (t := rw_78) fb_78 (by decide +kernel)
noncomputable def rw_79 : List (Instr × Nat) := [(.iload 6, 2), (.ifCond .ne 15, 3), (.aload_n 3, 1), (.iconst 0, 1), (.laload, 1), (.iload 7, 2), (.i2l, 1), (.lcmp, 1), (.ifCond .eq 5, 3), (.iconst 0, 1), (.ireturn, 1)]
set_option maxRecDepth 100000 in
theorem fb_79 : Jvm.Free.DS.Facts code 2036 rw_79 := Jvm.Free.DS.facts 2036 rw_79 (by decide +kernel) (by decide +kernel)
set_option maxRecDepth 100000 in
theorem cl_79 : okK 301 cod_301 b_301_79 = true := okK_of (t := rw_79) fb_79 (by decide +kernel)
noncomputable def rw_80 : List (Instr × Nat) := [(.goto 1879, 3)]
set_option maxRecDepth 100000 in
theorem fb_80 : Jvm.Free.DS.Facts code 2053 rw_80 := Jvm.Free.DS.facts 2053 rw_80 (by decide +kernel) (by decide +kernel)
set_option maxRecDepth 100000 in
theorem cl_80 : okK 301 cod_301 b_301_80 = true := okK_of (t := rw_80) fb_80 (by decide +kernel)
noncomputable def rw_81 : List (Instr × Nat) := [(.aload_n 1, 1), (.aload_n 0, 1), (.iload 5, 2), (.iconst 1, 1), (.iadd, 1), (.iaload, 1), (.aload_n 0, 1), (.iload 5, 2), (.iconst 2, 1), (.iadd, 1), (.iaload, 1), (.ifCond .eq 7, 3), (.iconst 1, 1), (.goto 4, 3)]
set_option maxRecDepth 100000 in
theorem fb_81 : Jvm.Free.DS.Facts code 2056 rw_81 := Jvm.Free.DS.facts 2056 rw_81 (by decide +kernel) (by decide +kernel)
set_option maxRecDepth 100000 in
theorem cl_81 : okK 301 cod_301 b_301_81 = true := okK_of (t := rw_81) fb_81 (by decide +kernel)
noncomputable def rw_82 : List (Instr × Nat) := [(.iconst 0, 1)]
set_option maxRecDepth 100000 in
theorem fb_82 : Jvm.Free.DS.Facts code 2076 rw_82 := Jvm.Free.DS.facts 2076 rw_82 (by decide +kernel) (by decide +kernel)
set_option maxRecDepth 100000 in
theorem cl_82 : okK 301 cod_301 b_301_82 = true := okK_of (t := rw_82) fb_82 (by decide +kernel)
noncomputable def rw_83 : List (Instr × Nat) := [(.aload_n 3, 1), (.invokestatic 265, 3), (.istore 6, 2), (.aload_n 2, 1), (.aload_n 0, 1), (.iload 5, 2), (.iconst 1, 1), (.iadd, 1), (.iaload, 1), (.aload_n 0, 1), (.iload 5, 2), (.iconst 2, 1), (.iadd, 1), (.iaload, 1), (.ifCond .eq 7, 3), (.iconst 1, 1), (.goto 4, 3)]
set_option maxRecDepth 100000 in
theorem fb_83 : Jvm.Free.DS.Facts code 2077 rw_83 := Jvm.Free.DS.facts 2077 rw_83 (by decide +kernel) (by decide +kernel)
set_option maxRecDepth 100000 in
theorem cl_83 : okK 301 cod_301 b_301_83 = true := okK_of (t := rw_83) fb_83 (by decide +kernel)
noncomputable def rw_84 : List (Instr × Nat) := [(.iconst 0, 1)]
set_option maxRecDepth 100000 in
theorem fb_84 : Jvm.Free.DS.Facts code 2103 rw_84 := Jvm.Free.DS.facts 2103 rw_84 (by decide +kernel) (by decide +kernel)
set_option maxRecDepth 100000 in
theorem cl_84 : okK 301 cod_301 b_301_84 = true := okK_of (t := rw_84) fb_84 (by decide +kernel)
noncomputable def rw_85 : List (Instr × Nat) := [(.invokevirtual 268, 3), (.istore 7, 2), (.aload_n 2, 1), (.invokevirtual 183, 3), (.iload 6, 2), (.if_icmp .eq 5, 3), (.iconst 0, 1), (.ireturn, 1)]
set_option maxRecDepth 100000 in
theorem fb_85 : Jvm.Free.DS.Facts code 2104 rw_85 := Jvm.Free.DS.facts 2104 rw_85 (by decide +kernel) (by decide +kernel)
set_option maxRecDepth 100000 in
theorem cl_85 : okK 301 cod_301 b_301_85 = true := okK_of (t := rw_85) fb_85 (by decide +kernel)
noncomputable def rw_86 : List (Instr × Nat) := [(.iload 6, 2), (.ifCond .ne 15, 3), (.aload_n 3, 1), (.iconst 0, 1), (.laload, 1), (.iload 7, 2), (.i2l, 1), (.lcmp, 1), (.ifCond .eq 5, 3), (.iconst 0, 1), (.ireturn, 1)]
set_option maxRecDepth 100000 in
theorem fb_86 : Jvm.Free.DS.Facts code 2120 rw_86 := Jvm.Free.DS.facts 2120 rw_86 (by decide +kernel) (by decide +kernel)
set_option maxRecDepth 100000 in
theorem cl_86 : okK 301 cod_301 b_301_86 = true := okK_of (t := rw_86) fb_86 (by decide +kernel)
noncomputable def rw_87 : List (Instr × Nat) := [(.goto 1795, 3)]
set_option maxRecDepth 100000 in
theorem fb_87 : Jvm.Free.DS.Facts code 2137 rw_87 := Jvm.Free.DS.facts 2137 rw_87 (by decide +kernel) (by decide +kernel)
set_option maxRecDepth 100000 in
theorem cl_87 : okK 301 cod_301 b_301_87 = true := okK_of (t := rw_87) fb_87 (by decide +kernel)
noncomputable def rw_88 : List (Instr × Nat) := [(.aload_n 1, 1), (.aload_n 0, 1), (.iload 5, 2), (.iconst 1, 1), (.iadd, 1), (.iaload, 1), (.aload_n 0, 1), (.iload 5, 2), (.iconst 2, 1), (.iadd, 1), (.iaload, 1), (.aload_n 0, 1), (.iload 5, 2), (.iconst 3, 1), (.iadd, 1), (.iaload, 1), (.ifCond .eq 7, 3), (.iconst 1, 1), (.goto 4, 3)]
set_option maxRecDepth 100000 in
theorem fb_88 : Jvm.Free.DS.Facts code 2140 rw_88 := Jvm.Free.DS.facts 2140 rw_88 (by decide +kernel) (by decide +kernel)
set_option maxRecDepth 100000 in
theorem cl_88 : okK 301 cod_301 b_301_88 = true := okK_of (t := rw_88) fb_88 (by decide +kernel)
noncomputable def rw_89 : List (Instr × Nat) := [(.iconst 0, 1)]
set_option maxRecDepth 100000 in
theorem fb_89 : Jvm.Free.DS.Facts code 2166 rw_89 := Jvm.Free.DS.facts 2166 rw_89 (by decide +kernel) (by decide +kernel)
set_option maxRecDepth 100000 in
theorem cl_89 : okK 301 cod_301 b_301_89 = true := okK_of (t := rw_89) fb_89 (by decide +kernel)
noncomputable def rw_90 : List (Instr × Nat) := [(.aload_n 3, 1), (.invokestatic 269, 3), (.istore 6, 2), (.aload_n 2, 1), (.aload_n 0, 1), (.iload 5, 2), (.iconst 1, 1), (.iadd, 1), (.iaload, 1), (.aload_n 0, 1), (.iload 5, 2), (.iconst 2, 1), (.iadd, 1), (.iaload, 1), (.aload_n 0, 1), (.iload 5, 2), (.iconst 3, 1), (.iadd, 1), (.iaload, 1), (.ifCond .eq 7, 3), (.iconst 1, 1), (.goto 4, 3)]
set_option maxRecDepth 100000 in
theorem fb_90 : Jvm.Free.DS.Facts code 2167 rw_90 := Jvm.Free.DS.facts 2167 rw_90 (by decide +kernel) (by decide +kernel)
set_option maxRecDepth 100000 in
theorem cl_90 : okK 301 cod_301 b_301_90 = true := okK_of (t := rw_90) fb_90 (by decide +kernel)
noncomputable def rw_91 : List (Instr × Nat) := [(.iconst 0, 1)]
set_option maxRecDepth 100000 in
theorem fb_91 : Jvm.Free.DS.Facts code 2199 rw_91 := Jvm.Free.DS.facts 2199 rw_91 (by decide +kernel) (by decide +kernel)
set_option maxRecDepth 100000 in
theorem cl_91 : okK 301 cod_301 b_301_91 = true := okK_of (t := rw_91) fb_91 (by decide +kernel)
noncomputable def rw_92 : List (Instr × Nat) := [(.invokevirtual 271, 3), (.istore 7, 2), (.aload_n 2, 1), (.invokevirtual 183, 3), (.iload 6, 2), (.if_icmp .eq 5, 3), (.iconst 0, 1), (.ireturn, 1)]
set_option maxRecDepth 100000 in
theorem fb_92 : Jvm.Free.DS.Facts code 2200 rw_92 := Jvm.Free.DS.facts 2200 rw_92 (by decide +kernel) (by decide +kernel)
set_option maxRecDepth 100000 in
theorem cl_92 : okK 301 cod_301 b_301_92 = true := okK_of (t := rw_92) fb_92 (by decide +kernel)
noncomputable def rw_93 : List (Instr × Nat) := [(.iload 6, 2), (.ifCond .ne 15, 3), (.aload_n 3, 1), (.iconst 0, 1), (.laload, 1), (.iload 7, 2), (.i2l, 1), (.lcmp, 1), (.ifCond .eq 5, 3), (.iconst 0, 1), (.ireturn, 1)]
set_option maxRecDepth 100000 in
theorem fb_93 : Jvm.Free.DS.Facts code 2216 rw_93 := Jvm.Free.DS.facts 2216 rw_93 (by decide +kernel) (by decide +kernel)
set_option maxRecDepth 100000 in
theorem cl_93 : okK 301 cod_301 b_301_93 = true := okK_of (t := rw_93) fb_93 (by decide +kernel)
noncomputable def rw_94 : List (Instr × Nat) := [(.goto 1699, 3)]
set_option maxRecDepth 100000 in
theorem fb_94 : Jvm.Free.DS.Facts code 2233 rw_94 := Jvm.Free.DS.facts 2233 rw_94 (by decide +kernel) (by decide +kernel)
set_option maxRecDepth 100000 in
theorem cl_94 : okK 301 cod_301 b_301_94 = true := okK_of (t := rw_94) fb_94 (by decide +kernel)
noncomputable def rw_95 : List (Instr × Nat) := [(.aload_n 1, 1), (.aload_n 0, 1), (.iload 5, 2), (.iconst 1, 1), (.iadd, 1), (.iaload, 1), (.aload_n 0, 1), (.iload 5, 2), (.iconst 2, 1), (.iadd, 1), (.iaload, 1), (.aload_n 0, 1), (.iload 5, 2), (.iconst 3, 1), (.iadd, 1), (.iaload, 1), (.aload_n 3, 1), (.invokestatic 272, 3), (.istore 6, 2), (.aload_n 2, 1), (.aload_n 0, 1), (.iload 5, 2), (.iconst 1, 1), (.iadd, 1), (.iaload, 1), (.aload_n 0, 1), (.iload 5, 2), (.iconst 2, 1), (.iadd, 1), (.iaload, 1), (.aload_n 0, 1), (.iload 5, 2), (.iconst 3, 1), (.iadd, 1), (.iaload, 1), (.invokevirtual 274, 3), (.istore 7, 2), (.aload_n 2, 1), (.invokevirtual 183, 3), (.iload 6, 2), (.if_icmp .eq 5, 3), (.iconst 0, 1), (.ireturn, 1)]
set_option maxRecDepth 100000 in
theorem fb_95 : Jvm.Free.DS.Facts code 2236 rw_95 := Jvm.Free.DS.facts 2236 rw_95 (by decide +kernel) (by decide +kernel)
set_option maxRecDepth 100000 in
theorem cl_95 : okK 301 cod_301 b_301_95 = true := okK_of (t := rw_95) fb_95 (by decide +kernel)
noncomputable def rw_96 : List (Instr × Nat) := [(.iload 6, 2), (.ifCond .ne 15, 3), (.aload_n 3, 1), (.iconst 0, 1), (.laload, 1), (.iload 7, 2), (.i2l, 1), (.lcmp, 1), (.ifCond .eq 5, 3), (.iconst 0, 1), (.ireturn, 1)]
set_option maxRecDepth 100000 in
theorem fb_96 : Jvm.Free.DS.Facts code 2296 rw_96 := Jvm.Free.DS.facts 2296 rw_96 (by decide +kernel) (by decide +kernel)
set_option maxRecDepth 100000 in
theorem cl_96 : okK 301 cod_301 b_301_96 = true := okK_of (t := rw_96) fb_96 (by decide +kernel)
noncomputable def rw_97 : List (Instr × Nat) := [(.goto 1619, 3)]
set_option maxRecDepth 100000 in
theorem fb_97 : Jvm.Free.DS.Facts code 2313 rw_97 := Jvm.Free.DS.facts 2313 rw_97 (by decide +kernel) (by decide +kernel)
set_option maxRecDepth 100000 in
theorem cl_97 : okK 301 cod_301 b_301_97 = true := okK_of (t := rw_97) fb_97 (by decide +kernel)
noncomputable def rw_98 : List (Instr × Nat) := [(.aload_n 1, 1), (.aload_n 0, 1), (.iload 5, 2), (.iconst 1, 1), (.iadd, 1), (.iaload, 1), (.aload_n 3, 1), (.invokestatic 275, 3), (.istore 6, 2), (.aload_n 2, 1), (.aload_n 0, 1), (.iload 5, 2), (.iconst 1, 1), (.iadd, 1), (.iaload, 1), (.invokevirtual 277, 3), (.istore 7, 2), (.aload_n 2, 1), (.invokevirtual 183, 3), (.iload 6, 2), (.if_icmp .eq 5, 3), (.iconst 0, 1), (.ireturn, 1)]
set_option maxRecDepth 100000 in
theorem fb_98 : Jvm.Free.DS.Facts code 2316 rw_98 := Jvm.Free.DS.facts 2316 rw_98 (by decide +kernel) (by decide +kernel)
set_option maxRecDepth 100000 in
theorem cl_98 : okK 301 cod_301 b_301_98 = true := okK_of (t := rw_98) fb_98 (by decide +kernel)
noncomputable def rw_99 : List (Instr × Nat) := [(.iload 6, 2), (.ifCond .ne 15, 3), (.aload_n 3, 1), (.iconst 0, 1), (.laload, 1), (.iload 7, 2), (.i2l, 1), (.lcmp, 1), (.ifCond .eq 5, 3), (.iconst 0, 1), (.ireturn, 1)]
set_option maxRecDepth 100000 in
theorem fb_99 : Jvm.Free.DS.Facts code 2352 rw_99 := Jvm.Free.DS.facts 2352 rw_99 (by decide +kernel) (by decide +kernel)
set_option maxRecDepth 100000 in
theorem cl_99 : okK 301 cod_301 b_301_99 = true := okK_of (t := rw_99) fb_99 (by decide +kernel)
noncomputable def rw_100 : List (Instr × Nat) := [(.goto 1563, 3)]
set_option maxRecDepth 100000 in
theorem fb_100 : Jvm.Free.DS.Facts code 2369 rw_100 := Jvm.Free.DS.facts 2369 rw_100 (by decide +kernel) (by decide +kernel)
set_option maxRecDepth 100000 in
theorem cl_100 : okK 301 cod_301 b_301_100 = true := okK_of (t := rw_100) fb_100 (by decide +kernel)
noncomputable def rw_101 : List (Instr × Nat) := [(.aload_n 1, 1), (.aload_n 0, 1), (.iload 5, 2), (.iconst 1, 1), (.iadd, 1), (.iaload, 1), (.aload_n 0, 1), (.iload 5, 2), (.iconst 2, 1), (.iadd, 1), (.iaload, 1), (.aload_n 0, 1), (.iload 5, 2), (.iconst 3, 1), (.iadd, 1), (.iaload, 1), (.aload_n 3, 1), (.invokestatic 278, 3), (.istore 6, 2), (.aload_n 2, 1), (.aload_n 0, 1), (.iload 5, 2), (.iconst 1, 1), (.iadd, 1), (.iaload, 1), (.aload_n 0, 1), (.iload 5, 2), (.iconst 2, 1), (.iadd, 1), (.iaload, 1), (.aload_n 0, 1), (.iload 5, 2), (.iconst 3, 1), (.iadd, 1), (.iaload, 1), (.invokevirtual 280, 3), (.istore 7, 2), (.aload_n 2, 1), (.invokevirtual 183, 3), (.iload 6, 2), (.if_icmp .eq 5, 3), (.iconst 0, 1), (.ireturn, 1)]
set_option maxRecDepth 100000 in
theorem fb_101 : Jvm.Free.DS.Facts code 2372 rw_101 := Jvm.Free.DS.facts 2372 rw_101 (by decide +kernel) (by decide +kernel)
set_option maxRecDepth 100000 in
theorem cl_101 : okK 301 cod_301 b_301_101 = true := okK_of (t := rw_101) fb_101 (by decide +kernel)
noncomputable def rw_102 : List (Instr × Nat) := [(.iload 6, 2), (.ifCond .ne 15, 3), (.aload_n 3, 1), (.iconst 0, 1), (.laload, 1), (.iload 7, 2), (.i2l, 1), (.lcmp, 1), (.ifCond .eq 5, 3), (.iconst 0, 1), (.ireturn, 1)]
set_option maxRecDepth 100000 in
theorem fb_102 : Jvm.Free.DS.Facts code 2432 rw_102 := Jvm.Free.DS.facts 2432 rw_102 (by decide +kernel) (by decide +kernel)
set_option maxRecDepth 100000 in
theorem cl_102 : okK 301 cod_301 b_301_102 = true := okK_of (t := rw_102) fb_102 (by decide +kernel)
noncomputable def rw_103 : List (Instr × Nat) := [(.goto 1483, 3)]
set_option maxRecDepth 100000 in
theorem fb_103 : Jvm.Free.DS.Facts code 2449 rw_103 := Jvm.Free.DS.facts 2449 rw_103 (by decide +kernel) (by decide +kernel)
set_option maxRecDepth 100000 in
theorem cl_103 : okK 301 cod_301 b_301_103 = true := okK_of (t := rw_103) fb_103 (by decide +kernel)
noncomputable def rw_104 : List (Instr × Nat) := [(.aload_n 1, 1), (.aload_n 0, 1), (.iload 5, 2), (.iconst 1, 1), (.iadd, 1), (.iaload, 1), (.aload_n 0, 1), (.iload 5, 2), (.iconst 2, 1), (.iadd, 1), (.iaload, 1), (.aload_n 3, 1), (.invokestatic 281, 3), (.istore 6, 2), (.aload_n 2, 1), (.aload_n 0, 1), (.iload 5, 2), (.iconst 1, 1), (.iadd, 1), (.iaload, 1), (.aload_n 0, 1), (.iload 5, 2), (.iconst 2, 1), (.iadd, 1), (.iaload, 1), (.invokevirtual 283, 3), (.istore 7, 2), (.aload_n 2, 1), (.invokevirtual 183, 3), (.iload 6, 2), (.if_icmp .eq 5, 3), (.iconst 0, 1), (.ireturn, 1)]
set_option maxRecDepth 100000 in
theorem fb_104 : Jvm.Free.DS.Facts code 2452 rw_104 := Jvm.Free.DS.facts 2452 rw_104 (by decide +kernel) (by decide +kernel)
set_option maxRecDepth 100000 in
theorem cl_104 : okK 301 cod_301 b_301_104 = true := okK_of (t := rw_104) fb_104 (by decide +kernel)
noncomputable def rw_105 : List (Instr × Nat) := [(.iload 6, 2), (.ifCond .ne 22, 3), (.aload_n 3, 1), (.iconst 0, 1), (.laload, 1), (.iload 7, 2), (.ifCond .eq 7, 3), (.lconst 1, 1), (.goto 4, 3)]
set_option maxRecDepth 100000 in
theorem fb_105 : Jvm.Free.DS.Facts code 2500 rw_105 := Jvm.Free.DS.facts 2500 rw_105 (by decide +kernel) (by decide +kernel)
set_option maxRecDepth 100000 in
theorem cl_105 : okK 301 cod_301 b_301_105 = true := okK_of (t := rw_105) fb_105 (by decide +kernel)
noncomputable def rw_106 : List (Instr × Nat) := [(.lconst 0, 1)]
set_option maxRecDepth 100000 in
theorem fb_106 : Jvm.Free.DS.Facts code 2517 rw_106 := Jvm.Free.DS.facts 2517 rw_106 (by decide +kernel) (by decide +kernel)
set_option maxRecDepth 100000 in
theorem cl_106 : okK 301 cod_301 b_301_106 = true := okK_of (t := rw_106) fb_106 (by decide +kernel)
noncomputable def rw_107 : List (Instr × Nat) := [(.lcmp, 1), (.ifCond .eq 5, 3), (.iconst 0, 1), (.ireturn, 1)]
set_option maxRecDepth 100000 in
theorem fb_107 : Jvm.Free.DS.Facts code 2518 rw_107 := Jvm.Free.DS.facts 2518 rw_107 (by decide +kernel) (by decide +kernel)
set_option maxRecDepth 100000 in
theorem cl_107 : okK 301 cod_301 b_301_107 = true := okK_of (t := rw_107) fb_107 (by decide +kernel)
noncomputable def rw_108 : List (Instr × Nat) := [(.goto 1408, 3)]
set_option maxRecDepth 100000 in
theorem fb_108 : Jvm.Free.DS.Facts code 2524 rw_108 := Jvm.Free.DS.facts 2524 rw_108 (by decide +kernel) (by decide +kernel)
set_option maxRecDepth 100000 in
theorem cl_108 : okK 301 cod_301 b_301_108 = true := okK_of (t := rw_108) fb_108 (by decide +kernel)
noncomputable def rw_109 : List (Instr × Nat) := [(.aload_n 1, 1), (.aload_n 0, 1), (.iload 5, 2), (.iconst 1, 1), (.iadd, 1), (.iaload, 1), (.aload_n 0, 1), (.iload 5, 2), (.iconst 2, 1), (.iadd, 1), (.iaload, 1), (.aload_n 0, 1), (.iload 5, 2), (.iconst 3, 1), (.iadd, 1), (.iaload, 1), (.ifCond .eq 7, 3), (.iconst 1, 1), (.goto 4, 3)]
set_option maxRecDepth 100000 in
theorem fb_109 : Jvm.Free.DS.Facts code 2527 rw_109 := Jvm.Free.DS.facts 2527 rw_109 (by decide +kernel) (by decide +kernel)
set_option maxRecDepth 100000 in
theorem cl_109 : okK 301 cod_301 b_301_109 = true := okK_of (t := rw_109) fb_109 (by decide +kernel)
noncomputable def rw_110 : List (Instr × Nat) := [(.iconst 0, 1)]
set_option maxRecDepth 100000 in
theorem fb_110 : Jvm.Free.DS.Facts code 2553 rw_110 := Jvm.Free.DS.facts 2553 rw_110 (by decide +kernel) (by decide +kernel)
set_option maxRecDepth 100000 in
theorem cl_110 : okK 301 cod_301 b_301_110 = true := okK_of (t := rw_110) fb_110 (by decide +kernel)
noncomputable def rw_111 : List (Instr × Nat) := [(.aload_n 3, 1), (.invokestatic 284, 3), (.istore 6, 2), (.aload_n 2, 1), (.aload_n 0, 1), (.iload 5, 2), (.iconst 1, 1), (.iadd, 1), (.iaload, 1), (.aload_n 0, 1), (.iload 5, 2), (.iconst 2, 1), (.iadd, 1), (.iaload, 1), (.aload_n 0, 1), (.iload 5, 2), (.iconst 3, 1), (.iadd, 1), (.iaload, 1), (.ifCond .eq 7, 3), (.iconst 1, 1), (.goto 4, 3)]
set_option maxRecDepth 100000 in
theorem fb_111 : Jvm.Free.DS.Facts code 2554 rw_111 := Jvm.Free.DS.facts 2554 rw_111 (by decide +kernel) (by decide +kernel)
set_option maxRecDepth 100000 in
theorem cl_111 : okK 301 cod_301 b_301_111 = true := okK_of (t := rw_111) fb_111 (by decide +kernel)
noncomputable def rw_112 : List (Instr × Nat) := [(.iconst 0, 1)]
set_option maxRecDepth 100000 in
theorem fb_112 : Jvm.Free.DS.Facts code 2586 rw_112 := Jvm.Free.DS.facts 2586 rw_112 (by decide +kernel) (by decide +kernel)
set_option maxRecDepth 100000 in
theorem cl_112 : okK 301 cod_301 b_301_112 = true := okK_of (t := rw_112) fb_112 (by decide +kernel)
noncomputable def rw_113 : List (Instr × Nat) := [(.invokevirtual 286, 3), (.istore 7, 2), (.aload_n 2, 1), (.invokevirtual 183, 3), (.iload 6, 2), (.if_icmp .eq 5, 3), (.iconst 0, 1), (.ireturn, 1)]
set_option maxRecDepth 100000 in
theorem fb_113 : Jvm.Free.DS.Facts code 2587 rw_113 := Jvm.Free.DS.facts 2587 rw_113 (by decide +kernel) (by decide +kernel)
set_option maxRecDepth 100000 in
theorem cl_113 : okK 301 cod_301 b_301_113 = true := okK_of (t := rw_113) fb_113 (by decide +kernel)
noncomputable def rw_114 : List (Instr × Nat) := [(.iload 6, 2), (.ifCond .ne 15, 3), (.aload_n 3, 1), (.iconst 0, 1), (.laload, 1), (.iload 7, 2), (.i2l, 1), (.lcmp, 1), (.ifCond .eq 5, 3), (.iconst 0, 1), (.ireturn, 1)]
set_option maxRecDepth 100000 in
theorem fb_114 : Jvm.Free.DS.Facts code 2603 rw_114 := Jvm.Free.DS.facts 2603 rw_114 (by decide +kernel) (by decide +kernel)
set_option maxRecDepth 100000 in
theorem cl_114 : okK 301 cod_301 b_301_114 = true := okK_of (t := rw_114) fb_114 (by decide +kernel)
noncomputable def rw_115 : List (Instr × Nat) := [(.goto 1312, 3)]
set_option maxRecDepth 100000 in
theorem fb_115 : Jvm.Free.DS.Facts code 2620 rw_115 := Jvm.Free.DS.facts 2620 rw_115 (by decide +kernel) (by decide +kernel)
set_option maxRecDepth 100000 in
theorem cl_115 : okK 301 cod_301 b_301_115 = true := okK_of (t := rw_115) fb_115 (by decide +kernel)
noncomputable def rw_116 : List (Instr × Nat) := [(.aload_n 1, 1), (.aload_n 0, 1), (.iload 5, 2), (.iconst 1, 1), (.iadd, 1), (.iaload, 1), (.aload_n 0, 1), (.iload 5, 2), (.iconst 2, 1), (.iadd, 1), (.iaload, 1), (.aload_n 3, 1), (.invokestatic 287, 3), (.istore 6, 2), (.aload_n 2, 1), (.aload_n 0, 1), (.iload 5, 2), (.iconst 1, 1), (.iadd, 1), (.iaload, 1), (.aload_n 0, 1), (.iload 5, 2), (.iconst 2, 1), (.iadd, 1), (.iaload, 1), (.invokevirtual 289, 3), (.istore 7, 2), (.aload_n 2, 1), (.invokevirtual 183, 3), (.iload 6, 2), (.if_icmp .eq 5, 3), (.iconst 0, 1), (.ireturn, 1)]
set_option maxRecDepth 100000 in
theorem fb_116 : Jvm.Free.DS.Facts code 2623 rw_116 := Jvm.Free.DS.facts 2623 rw_116 (by decide +kernel) (by decide +kernel)
set_option maxRecDepth 100000 in
theorem cl_116 : okK 301 cod_301 b_301_116 = true := okK_of (t := rw_116) fb_116 (by decide +kernel)
noncomputable def rw_117 : List (Instr × Nat) := [(.iload 6, 2), (.ifCond .ne 15, 3), (.aload_n 3, 1), (.iconst 0, 1), (.laload, 1), (.iload 7, 2), (.i2l, 1), (.lcmp, 1), (.ifCond .eq 5, 3), (.iconst 0, 1), (.ireturn, 1)]
set_option maxRecDepth 100000 in
theorem fb_117 : Jvm.Free.DS.Facts code 2671 rw_117 := Jvm.Free.DS.facts 2671 rw_117 (by decide +kernel) (by decide +kernel)
set_option maxRecDepth 100000 in
theorem cl_117 : okK 301 cod_301 b_301_117 = true := okK_of (t := rw_117) fb_117 (by decide +kernel)
noncomputable def rw_118 : List (Instr × Nat) := [(.goto 1244, 3)]
set_option maxRecDepth 100000 in
theorem fb_118 : Jvm.Free.DS.Facts code 2688 rw_118 := Jvm.Free.DS.facts 2688 rw_118 (by decide +kernel) (by decide +kernel)
set_option maxRecDepth 100000 in
theorem cl_118 : okK 301 cod_301 b_301_118 = true := okK_of (t := rw_118) fb_118 (by decide +kernel)
noncomputable def rw_119 : List (Instr × Nat) := [(.aload_n 1, 1), (.aload_n 0, 1), (.iload 5, 2), (.iconst 1, 1), (.iadd, 1), (.iaload, 1), (.aload_n 0, 1), (.iload 5, 2), (.iconst 2, 1), (.iadd, 1), (.iaload, 1), (.aload_n 0, 1), (.iload 5, 2), (.iconst 3, 1), (.iadd, 1), (.iaload, 1), (.aload_n 3, 1), (.invokestatic 290, 3), (.istore 6, 2), (.aload_n 2, 1), (.aload_n 0, 1), (.iload 5, 2), (.iconst 1, 1), (.iadd, 1), (.iaload, 1), (.aload_n 0, 1), (.iload 5, 2), (.iconst 2, 1), (.iadd, 1), (.iaload, 1), (.aload_n 0, 1), (.iload 5, 2), (.iconst 3, 1), (.iadd, 1), (.iaload, 1), (.invokevirtual 292, 3), (.istore 7, 2), (.aload_n 2, 1), (.invokevirtual 183, 3), (.iload 6, 2), (.if_icmp .eq 5, 3), (.iconst 0, 1), (.ireturn, 1)]
set_option maxRecDepth 100000 in
theorem fb_119 : Jvm.Free.DS.Facts code 2691 rw_119 := Jvm.Free.DS.facts 2691 rw_119 (by decide +kernel) (by decide +kernel)
set_option maxRecDepth 100000 in
theorem cl_119 : okK 301 cod_301 b_301_119 = true := okK_of (t := rw_119) fb_119 (by decide +kernel)
noncomputable def rw_120 : List (Instr × Nat) := [(.iload 6, 2), (.ifCond .ne 15, 3), (.aload_n 3, 1), (.iconst 0, 1), (.laload, 1), (.iload 7, 2), (.i2l, 1), (.lcmp, 1), (.ifCond .eq 5, 3), (.iconst 0, 1), (.ireturn, 1)]
set_option maxRecDepth 100000 in
theorem fb_120 : Jvm.Free.DS.Facts code 2751 rw_120 := Jvm.Free.DS.facts 2751 rw_120 (by decide +kernel) (by decide +kernel)
set_option maxRecDepth 100000 in
theorem cl_120 : okK 301 cod_301 b_301_120 = true := okK_of (t := rw_120) fb_120 (by decide +kernel)
noncomputable def rw_121 : List (Instr × Nat) := [(.goto 1164, 3)]
set_option maxRecDepth 100000 in
theorem fb_121 : Jvm.Free.DS.Facts code 2768 rw_121 := Jvm.Free.DS.facts 2768 rw_121 (by decide +kernel) (by decide +kernel)
set_option maxRecDepth 100000 in
theorem cl_121 : okK 301 cod_301 b_301_121 = true := okK_of (t := rw_121) fb_121 (by decide +kernel)
noncomputable def rw_122 : List (Instr × Nat) := [(.aload_n 1, 1), (.aload_n 0, 1), (.iload 5, 2), (.iconst 1, 1), (.iadd, 1), (.iaload, 1), (.aload_n 0, 1), (.iload 5, 2), (.iconst 2, 1), (.iadd, 1), (.iaload, 1), (.aload_n 3, 1), (.invokestatic 293, 3), (.istore 6, 2), (.aload_n 2, 1), (.aload_n 0, 1), (.iload 5, 2), (.iconst 1, 1), (.iadd, 1), (.iaload, 1), (.aload_n 0, 1), (.iload 5, 2), (.iconst 2, 1), (.iadd, 1), (.iaload, 1), (.invokevirtual 295, 3), (.istore 7, 2), (.aload_n 2, 1), (.invokevirtual 183, 3), (.iload 6, 2), (.if_icmp .eq 5, 3), (.iconst 0, 1), (.ireturn, 1)]
set_option maxRecDepth 100000 in
theorem fb_122 : Jvm.Free.DS.Facts code 2771 rw_122 := Jvm.Free.DS.facts 2771 rw_122 (by decide +kernel) (by decide +kernel)
set_option maxRecDepth 100000 in
theorem cl_122 : okK 301 cod_301 b_301_122 = true := okK_of (t := rw_122) fb_122 (by decide +kernel)
noncomputable def rw_123 : List (Instr × Nat) := [(.iload 6, 2), (.ifCond .ne 15, 3), (.aload_n 3, 1), (.iconst 0, 1), (.laload, 1), (.iload 7, 2), (.i2l, 1), (.lcmp, 1), (.ifCond .eq 5, 3), (.iconst 0, 1), (.ireturn, 1)]
set_option maxRecDepth 100000 in
theorem fb_123 : Jvm.Free.DS.Facts code 2819 rw_123 := Jvm.Free.DS.facts 2819 rw_123 (by decide +kernel) (by decide +kernel)
set_option maxRecDepth 100000 in
theorem cl_123 : okK 301 cod_301 b_301_123 = true := okK_of (t := rw_123) fb_123 (by decide +kernel)
noncomputable def rw_124 : List (Instr × Nat) := [(.goto 1096, 3)]
set_option maxRecDepth 100000 in
theorem fb_124 : Jvm.Free.DS.Facts code 2836 rw_124 := Jvm.Free.DS.facts 2836 rw_124 (by decide +kernel) (by decide +kernel)
set_option maxRecDepth 100000 in
theorem cl_124 : okK 301 cod_301 b_301_124 = true := okK_of (t := rw_124) fb_124 (by decide +kernel)
noncomputable def rw_125 : List (Instr × Nat) := [(.aload_n 1, 1), (.aload_n 0, 1), (.iload 5, 2), (.iconst 1, 1), (.iadd, 1), (.iaload, 1), (.aload_n 0, 1), (.iload 5, 2), (.iconst 2, 1), (.iadd, 1), (.iaload, 1), (.aload_n 0, 1), (.iload 5, 2), (.iconst 3, 1), (.iadd, 1), (.iaload, 1), (.aload_n 3, 1), (.invokestatic 296, 3), (.istore 6, 2), (.aload_n 2, 1), (.aload_n 0, 1), (.iload 5, 2), (.iconst 1, 1), (.iadd, 1), (.iaload, 1), (.aload_n 0, 1), (.iload 5, 2), (.iconst 2, 1), (.iadd, 1), (.iaload, 1), (.aload_n 0, 1), (.iload 5, 2), (.iconst 3, 1), (.iadd, 1), (.iaload, 1), (.invokevirtual 298, 3), (.istore 7, 2), (.aload_n 2, 1), (.invokevirtual 183, 3), (.iload 6, 2), (.if_icmp .eq 5, 3), (.iconst 0, 1), (.ireturn, 1)]
set_option maxRecDepth 100000 in
theorem fb_125 : Jvm.Free.DS.Facts code 2839 rw_125 := Jvm.Free.DS.facts 2839 rw_125 (by decide +kernel) (by decide +kernel)
set_option maxRecDepth 100000 in
theorem cl_125 : okK 301 cod_301 b_301_125 = true := okK_of (t := rw_125) fb_125 (by decide +kernel)
noncomputable def rw_126 : List (Instr × Nat) := [(.iload 6, 2), (.ifCond .ne 15, 3), (.aload_n 3, 1), (.iconst 0, 1), (.laload, 1), (.iload 7, 2), (.i2l, 1), (.lcmp, 1), (.ifCond .eq 5, 3), (.iconst 0, 1), (.ireturn, 1)]
set_option maxRecDepth 100000 in
theorem fb_126 : Jvm.Free.DS.Facts code 2899 rw_126 := Jvm.Free.DS.facts 2899 rw_126 (by decide +kernel) (by decide +kernel)
set_option maxRecDepth 100000 in
theorem cl_126 : okK 301 cod_301 b_301_126 = true := okK_of (t := rw_126) fb_126 (by decide +kernel)
noncomputable def rw_127 : List (Instr × Nat) := [(.goto 1016, 3)]
set_option maxRecDepth 100000 in
theorem fb_127 : Jvm.Free.DS.Facts code 2916 rw_127 := Jvm.Free.DS.facts 2916 rw_127 (by decide +kernel) (by decide +kernel)
set_option maxRecDepth 100000 in
theorem cl_127 : okK 301 cod_301 b_301_127 = true := okK_of (t := rw_127) fb_127 (by decide +kernel)
noncomputable def rw_128 : List (Instr × Nat) := [(.aload_n 1, 1), (.aload_n 0, 1), (.iload 5, 2), (.iconst 1, 1), (.iadd, 1), (.iaload, 1), (.aload_n 0, 1), (.iload 5, 2), (.iconst 2, 1), (.iadd, 1), (.iaload, 1), (.aload_n 3, 1), (.invokestatic 299, 3), (.istore 6, 2), (.aload_n 2, 1), (.aload_n 0, 1), (.iload 5, 2), (.iconst 1, 1), (.iadd, 1), (.iaload, 1), (.aload_n 0, 1), (.iload 5, 2), (.iconst 2, 1), (.iadd, 1), (.iaload, 1), (.invokevirtual 301, 3), (.istore 7, 2), (.aload_n 2, 1), (.invokevirtual 183, 3), (.iload 6, 2), (.if_icmp .eq 5, 3), (.iconst 0, 1), (.ireturn, 1)]
set_option maxRecDepth 100000 in
theorem fb_128 : Jvm.Free.DS.Facts code 2919 rw_128 := Jvm.Free.DS.facts 2919 rw_128 (by decide +kernel) (by decide +kernel)
set_option maxRecDepth 100000 in
theorem cl_128 : okK 301 cod_301 b_301_128 = true := okK_of (t := rw_128) fb_128 (by decide +kernel)
noncomputable def rw_129 : List (Instr × Nat) := [(.iload 6, 2), (.ifCond .ne 15, 3), (.aload_n 3, 1), (.iconst 0, 1), (.laload, 1), (.iload 7, 2), (.i2l, 1), (.lcmp, 1), (.ifCond .eq 5, 3), (.iconst 0, 1), (.ireturn, 1)]
set_option maxRecDepth 100000 in
theorem fb_129 : Jvm.Free.DS.Facts code 2967 rw_129 := Jvm.Free.DS.facts 2967 rw_129 (by decide +kernel) (by decide +kernel)
set_option maxRecDepth 100000 in
theorem cl_129 : okK 301 cod_301 b_301_129 = true := okK_of (t := rw_129) fb_129 (by decide +kernel)
noncomputable def rw_130 : List (Instr × Nat) := [(.goto 948, 3)]
set_option maxRecDepth 100000 in
theorem fb_130 : Jvm.Free.DS.Facts code 2984 rw_130 := Jvm.Free.DS.facts 2984 rw_130 (by decide +kernel) (by decide +kernel)
set_option maxRecDepth 100000 in
theorem cl_130 : okK 301 cod_301 b_301_130 = true := okK_of (t := rw_130) fb_130 (by decide +kernel)
noncomputable def rw_131 : List (Instr × Nat) := [(.aload_n 1, 1), (.aload_n 0, 1), (.iload 5, 2), (.iconst 1, 1), (.iadd, 1), (.iaload, 1), (.aload_n 0, 1), (.iload 5, 2), (.iconst 2, 1), (.iadd, 1), (.iaload, 1), (.aload_n 0, 1), (.iload 5, 2), (.iconst 3, 1), (.iadd, 1), (.iaload, 1), (.aload_n 3, 1), (.invokestatic 302, 3), (.istore 6, 2), (.aload_n 2, 1), (.aload_n 0, 1), (.iload 5, 2), (.iconst 1, 1), (.iadd, 1), (.iaload, 1), (.aload_n 0, 1), (.iload 5, 2), (.iconst 2, 1), (.iadd, 1), (.iaload, 1), (.aload_n 0, 1), (.iload 5, 2), (.iconst 3, 1), (.iadd, 1), (.iaload, 1), (.invokevirtual 304, 3), (.istore 7, 2), (.aload_n 2, 1), (.invokevirtual 183, 3), (.iload 6, 2), (.if_icmp .eq 5, 3), (.iconst 0, 1), (.ireturn, 1)]
set_option maxRecDepth 100000 in
theorem fb_131 : Jvm.Free.DS.Facts code 2987 rw_131 := Jvm.Free.DS.facts 2987 rw_131 (by decide +kernel) (by decide +kernel)
set_option maxRecDepth 100000 in
theorem cl_131 : okK 301 cod_301 b_301_131 = true := okK_of (t := rw_131) fb_131 (by decide +kernel)
noncomputable def rw_132 : List (Instr × Nat) := [(.iload 6, 2), (.ifCond .ne 15, 3), (.aload_n 3, 1), (.iconst 0, 1), (.laload, 1), (.iload 7, 2), (.i2l, 1), (.lcmp, 1), (.ifCond .eq 5, 3), (.iconst 0, 1), (.ireturn, 1)]
set_option maxRecDepth 100000 in
theorem fb_132 : Jvm.Free.DS.Facts code 3047 rw_132 := Jvm.Free.DS.facts 3047 rw_132 (by decide +kernel) (by decide +kernel)
set_option maxRecDepth 100000 in
theorem cl_132 : okK 301 cod_301 b_301_132 = true := okK_of (t := rw_132) fb_132 (by decide +kernel)
noncomputable def rw_133 : List (Instr × Nat) := [(.goto 868, 3)]
set_option maxRecDepth 100000 in
theorem fb_133 : Jvm.Free.DS.Facts code 3064 rw_133 := Jvm.Free.DS.facts 3064 rw_133 (by decide +kernel) (by decide +kernel)
set_option maxRecDepth 100000 in
theorem cl_133 : okK 301 cod_301 b_301_133 = true := okK_of (t := rw_133) fb_133 (by decide +kernel)
noncomputable def rw_134 : List (Instr × Nat) := [(.aload_n 1, 1), (.aload_n 0, 1), (.iload 5, 2), (.iconst 1, 1), (.iadd, 1), (.iaload, 1), (.aload_n 0, 1), (.iload 5, 2), (.iconst 2, 1), (.iadd, 1), (.iaload, 1), (.aload_n 3, 1), (.invokestatic 305, 3), (.istore 6, 2), (.aload_n 2, 1), (.aload_n 0, 1), (.iload 5, 2), (.iconst 1, 1), (.iadd, 1), (.iaload, 1), (.aload_n 0, 1), (.iload 5, 2), (.iconst 2, 1), (.iadd, 1), (.iaload, 1), (.invokevirtual 307, 3), (.istore 7, 2), (.aload_n 2, 1), (.invokevirtual 183, 3), (.iload 6, 2), (.if_icmp .eq 5, 3), (.iconst 0, 1), (.ireturn, 1)]
set_option maxRecDepth 100000 in
theorem fb_134 : Jvm.Free.DS.Facts code 3067 rw_134 := Jvm.Free.DS.facts 3067 rw_134 (by decide +kernel) (by decide +kernel)
set_option maxRecDepth 100000 in
theorem cl_134 : okK 301 cod_301 b_301_134 = true := okK_of (t := rw_134) fb_134 (by decide +kernel)
noncomputable def rw_135 : List (Instr × Nat) := [(.iload 6, 2), (.ifCond .ne 15, 3), (.aload_n 3, 1), (.iconst 0, 1), (.laload, 1), (.iload 7, 2), (.i2l, 1), (.lcmp, 1), (.ifCond .eq 5, 3), (.iconst 0, 1), (.ireturn, 1)]
set_option maxRecDepth 100000 in
theorem fb_135 : Jvm.Free.DS.Facts code 3115 rw_135 := Jvm.Free.DS.facts 3115 rw_135 (by decide +kernel) (by decide +kernel)
set_option maxRecDepth 100000 in
theorem cl_135 : okK 301 cod_301 b_301_135 = true := okK_of (t := rw_135) fb_135 (by decide +kernel)
noncomputable def rw_136 : List (Instr × Nat) := [(.goto 800, 3)]
set_option maxRecDepth 100000 in
theorem fb_136 : Jvm.Free.DS.Facts code 3132 rw_136 := Jvm.Free.DS.facts 3132 rw_136 (by decide +kernel) (by decide +kernel)
set_option maxRecDepth 100000 in
theorem cl_136 : okK 301 cod_301 b_301_136 = true := okK_of (t := rw_136) fb_136 (by decide +kernel)
noncomputable def rw_137 : List (Instr × Nat) := [(.aload_n 1, 1), (.aload_n 0, 1), (.iload 5, 2), (.iconst 1, 1), (.iadd, 1), (.iaload, 1), (.aload_n 0, 1), (.iload 5, 2), (.iconst 2, 1), (.iadd, 1), (.iaload, 1), (.aload_n 0, 1), (.iload 5, 2), (.iconst 3, 1), (.iadd, 1), (.iaload, 1), (.aload_n 0, 1), (.iload 5, 2), (.iconst 4, 1), (.iadd, 1), (.iaload, 1), (.aload_n 3, 1), (.invokestatic 308, 3), (.istore 6, 2), (.aload_n 2, 1), (.aload_n 0, 1), (.iload 5, 2), (.iconst 1, 1), (.iadd, 1), (.iaload, 1), (.aload_n 0, 1), (.iload 5, 2), (.iconst 2, 1), (.iadd, 1), (.iaload, 1), (.aload_n 0, 1), (.iload 5, 2), (.iconst 3, 1), (.iadd, 1), (.iaload, 1), (.aload_n 0, 1), (.iload 5, 2), (.iconst 4, 1), (.iadd, 1), (.iaload, 1), (.invokevirtual 310, 3), (.istore 7, 2), (.aload_n 2, 1), (.invokevirtual 183, 3), (.iload 6, 2), (.if_icmp .eq 5, 3), (.iconst 0, 1), (.ireturn, 1)]
set_option maxRecDepth 100000 in
theorem fb_137 : Jvm.Free.DS.Facts code 3135 rw_137 := Jvm.Free.DS.facts 3135 rw_137 (by decide +kernel) (by decide +kernel)
set_option maxRecDepth 100000 in
theorem cl_137 : okK 301 cod_301 b_301_137 = true := okK_of (t := rw_137) fb_137 (by decide +kernel)
noncomputable def rw_138 : List (Instr × Nat) := [(.iload 6, 2), (.ifCond .ne 15, 3), (.aload_n 3, 1), (.iconst 0, 1), (.laload, 1), (.iload 7, 2), (.i2l, 1), (.lcmp, 1), (.ifCond .eq 5, 3), (.iconst 0, 1), (.ireturn, 1)]
set_option maxRecDepth 100000 in
theorem fb_138 : Jvm.Free.DS.Facts code 3207 rw_138 := Jvm.Free.DS.facts 3207 rw_138 (by decide +kernel) (by decide +kernel)
set_option maxRecDepth 100000 in
theorem cl_138 : okK 301 cod_301 b_301_138 = true := okK_of (t := rw_138) fb_138 (by decide +kernel)
noncomputable def rw_139 : List (Instr × Nat) := [(.goto 708, 3)]
set_option maxRecDepth 100000 in
theorem fb_139 : Jvm.Free.DS.Facts code 3224 rw_139 := Jvm.Free.DS.facts 3224 rw_139 (by decide +kernel) (by decide +kernel)
set_option maxRecDepth 100000 in
theorem cl_139 : okK 301 cod_301 b_301_139 = true := okK_of (t := rw_139) fb_139 (by decide +kernel)
noncomputable def rw_140 : List (Instr × Nat) := [(.aload_n 1, 1), (.aload_n 0, 1), (.iload 5, 2), (.iconst 1, 1), (.iadd, 1), (.iaload, 1), (.aload_n 0, 1), (.iload 5, 2), (.iconst 2, 1), (.iadd, 1), (.iaload, 1), (.aload_n 3, 1), (.invokestatic 311, 3), (.istore 6, 2), (.aload_n 2, 1), (.aload_n 0, 1), (.iload 5, 2), (.iconst 1, 1), (.iadd, 1), (.iaload, 1), (.aload_n 0, 1), (.iload 5, 2), (.iconst 2, 1), (.iadd, 1), (.iaload, 1), (.invokevirtual 313, 3), (.istore 7, 2), (.aload_n 2, 1), (.invokevirtual 183, 3), (.iload 6, 2), (.if_icmp .eq 5, 3), (.iconst 0, 1), (.ireturn, 1)]
set_option maxRecDepth 100000 in
theorem fb_140 : Jvm.Free.DS.Facts code 3227 rw_140 := Jvm.Free.DS.facts 3227 rw_140 (by decide +kernel) (by decide +kernel)
set_option maxRecDepth 100000 in
theorem cl_140 : okK 301 cod_301 b_301_140 = true := okK_of (t := rw_140) fb_140 (by decide +kernel)
noncomputable def rw_141 : List (Instr × Nat) := [(.iload 6, 2), (.ifCond .ne 15, 3), (.aload_n 3, 1), (.iconst 0, 1), (.laload, 1), (.iload 7, 2), (.i2l, 1), (.lcmp, 1), (.ifCond .eq 5, 3), (.iconst 0, 1), (.ireturn, 1)]
set_option maxRecDepth 100000 in
theorem fb_141 : Jvm.Free.DS.Facts code 3275 rw_141 := Jvm.Free.DS.facts 3275 rw_141 (by decide +kernel) (by decide +kernel)
set_option maxRecDepth 100000 in
theorem cl_141 : okK 301 cod_301 b_301_141 = true := okK_of (t := rw_141) fb_141 (by decide +kernel)
noncomputable def rw_142 : List (Instr × Nat) := [(.goto 640, 3)]
set_option maxRecDepth 100000 in
theorem fb_142 : Jvm.Free.DS.Facts code 3292 rw_142 := Jvm.Free.DS.facts 3292 rw_142 (by decide +kernel) (by decide +kernel)
set_option maxRecDepth 100000 in
theorem cl_142 : okK 301 cod_301 b_301_142 = true := okK_of (t := rw_142) fb_142 (by decide +kernel)
noncomputable def rw_143 : List (Instr × Nat) := [(.aload_n 1, 1), (.aload_n 0, 1), (.iload 5, 2), (.iconst 1, 1), (.iadd, 1), (.iaload, 1), (.aload_n 0, 1), (.iload 5, 2), (.iconst 2, 1), (.iadd, 1), (.iaload, 1), (.aload_n 3, 1), (.invokestatic 314, 3), (.istore 6, 2), (.aload_n 2, 1), (.aload_n 0, 1), (.iload 5, 2), (.iconst 1, 1), (.iadd, 1), (.iaload, 1), (.aload_n 0, 1), (.iload 5, 2), (.iconst 2, 1), (.iadd, 1), (.iaload, 1), (.invokevirtual 316, 3), (.istore 7, 2), (.aload_n 2, 1), (.invokevirtual 183, 3), (.iload 6, 2), (.if_icmp .eq 5, 3), (.iconst 0, 1), (.ireturn, 1)]
set_option maxRecDepth 100000 in
theorem fb_143 : Jvm.Free.DS.Facts code 3295 rw_143 := Jvm.Free.DS.facts 3295 rw_143 (by decide +kernel) (by decide +kernel)
set_option maxRecDepth 100000 in
theorem cl_143 : okK 301 cod_301 b_301_143 = true := okK_of (t := rw_143) fb_143 (by decide +kernel)
noncomputable def rw_144 : List (Instr × Nat) := [(.iload 6, 2), (.ifCond .ne 15, 3), (.aload_n 3, 1), (.iconst 0, 1), (.laload, 1), (.iload 7, 2), (.i2l, 1), (.lcmp, 1), (.ifCond .eq 5, 3), (.iconst 0, 1), (.ireturn, 1)]
set_option maxRecDepth 100000 in
theorem fb_144 : Jvm.Free.DS.Facts code 3343 rw_144 := Jvm.Free.DS.facts 3343 rw_144 (by decide +kernel) (by decide +kernel)
set_option maxRecDepth 100000 in
theorem cl_144 : okK 301 cod_301 b_301_144 = true := okK_of (t := rw_144) fb_144 (by decide +kernel)
noncomputable def rw_145 : List (Instr × Nat) := [(.goto 572, 3)]
set_option maxRecDepth 100000 in
theorem fb_145 : Jvm.Free.DS.Facts code 3360 rw_145 := Jvm.Free.DS.facts 3360 rw_145 (by decide +kernel) (by decide +kernel)
set_option maxRecDepth 100000 in
theorem cl_145 : okK 301 cod_301 b_301_145 = true := okK_of (t := rw_145) fb_145 (by decide +kernel)
noncomputable def rw_146 : List (Instr × Nat) := [(.aload_n 1, 1), (.aload_n 0, 1), (.iload 5, 2), (.iconst 1, 1), (.iadd, 1), (.iaload, 1), (.aload_n 3, 1), (.invokestatic 317, 3), (.istore 6, 2), (.aload_n 2, 1), (.aload_n 0, 1), (.iload 5, 2), (.iconst 1, 1), (.iadd, 1), (.iaload, 1), (.invokevirtual 319, 3), (.istore 7, 2), (.aload_n 2, 1), (.invokevirtual 183, 3), (.iload 6, 2), (.if_icmp .eq 5, 3), (.iconst 0, 1), (.ireturn, 1)]
set_option maxRecDepth 100000 in
theorem fb_146 : Jvm.Free.DS.Facts code 3363 rw_146 := Jvm.Free.DS.facts 3363 rw_146 (by decide +kernel) (by decide +kernel)
set_option maxRecDepth 100000 in
theorem cl_146 : okK 301 cod_301 b_301_146 = true := okK_of (t := rw_146) fb_146 (by decide +kernel)
noncomputable def rw_147 : List (Instr × Nat) := [(.iload 6, 2), (.ifCond .ne 15, 3), (.aload_n 3, 1), (.iconst 0, 1), (.laload, 1), (.iload 7, 2), (.i2l, 1), (.lcmp, 1), (.ifCond .eq 5, 3), (.iconst 0, 1), (.ireturn, 1)]
set_option maxRecDepth 100000 in
theorem fb_147 : Jvm.Free.DS.Facts code 3399 rw_147 := Jvm.Free.DS.facts 3399 rw_147 (by decide +kernel) (by decide +kernel)
set_option maxRecDepth 100000 in
theorem cl_147 : okK 301 cod_301 b_301_147 = true := okK_of (t := rw_147) fb_147 (by decide +kernel)
noncomputable def rw_148 : List (Instr × Nat) := [(.goto 516, 3)]
set_option maxRecDepth 100000 in
theorem fb_148 : Jvm.Free.DS.Facts code 3416 rw_148 := Jvm.Free.DS.facts 3416 rw_148 (by decide +kernel) (by decide +kernel)
set_option maxRecDepth 100000 in
theorem cl_148 : okK 301 cod_301 b_301_148 = true := okK_of (t := rw_148) fb_148 (by decide +kernel)
noncomputable def rw_149 : List (Instr × Nat) := [(.aload_n 1, 1), (.aload_n 0, 1), (.iload 5, 2), (.iconst 1, 1), (.iadd, 1), (.iaload, 1), (.aload_n 0, 1), (.iload 5, 2), (.iconst 2, 1), (.iadd, 1), (.iaload, 1), (.aload_n 0, 1), (.iload 5, 2), (.iconst 3, 1), (.iadd, 1), (.iaload, 1), (.ifCond .eq 7, 3), (.iconst 1, 1), (.goto 4, 3)]
set_option maxRecDepth 100000 in
theorem fb_149 : Jvm.Free.DS.Facts code 3419 rw_149 := Jvm.Free.DS.facts 3419 rw_149 (by decide +kernel) (by decide +kernel)
set_option maxRecDepth 100000 in
theorem cl_149 : okK 301 cod_301 b_301_149 = true := okK_of (t := rw_149) fb_149 (by decide +kernel)
noncomputable def rw_150 : List (Instr × Nat) := [(.iconst 0, 1)]
set_option maxRecDepth 100000 in
theorem fb_150 : Jvm.Free.DS.Facts code 3445 rw_150 := Jvm.Free.DS.facts 3445 rw_150 (by decide +kernel) (by decide +kernel)
set_option maxRecDepth 100000 in
theorem cl_150 : okK 301 cod_301 b_301_150 = true := okK_of (t := rw_150) fb_150 (by decide +kernel)
noncomputable def rw_151 : List (Instr × Nat) := [(.aload_n 3, 1), (.invokestatic 320, 3), (.istore 6, 2), (.aload_n 2, 1), (.aload_n 0, 1), (.iload 5, 2), (.iconst 1, 1), (.iadd, 1), (.iaload, 1), (.aload_n 0, 1), (.iload 5, 2), (.iconst 2, 1), (.iadd, 1), (.iaload, 1), (.aload_n 0, 1), (.iload 5, 2), (.iconst 3, 1), (.iadd, 1), (.iaload, 1), (.ifCond .eq 7, 3), (.iconst 1, 1), (.goto 4, 3)]
set_option maxRecDepth 100000 in
theorem fb_151 : Jvm.Free.DS.Facts code 3446 rw_151 := Jvm.Free.DS.facts 3446 rw_151 (by decide +kernel) (by decide +kernel)
set_option maxRecDepth 100000 in
theorem cl_151 : okK 301 cod_301 b_301_151 = true := okK_of (t := rw_151) fb_151 (by decide +kernel)
noncomputable def rw_152 : List (Instr × Nat) := [(.iconst 0, 1)]
set_option maxRecDepth 100000 in
theorem fb_152 : Jvm.Free.DS.Facts code 3478 rw_152 := Jvm.Free.DS.facts 3478 rw_152 (by decide +kernel) (by decide +kernel)
set_option maxRecDepth 100000 in
theorem cl_152 : okK 301 cod_301 b_301_152 = true := okK_of (t := rw_152) fb_152 (by decide +kernel)
noncomputable def rw_153 : List (Instr × Nat) := [(.invokevirtual 322, 3), (.istore 7, 2), (.aload_n 2, 1), (.invokevirtual 183, 3), (.iload 6, 2), (.if_icmp .eq 5, 3), (.iconst 0, 1), (.ireturn, 1)]
set_option maxRecDepth 100000 in
theorem fb_153 : Jvm.Free.DS.Facts code 3479 rw_153 := Jvm.Free.DS.facts 3479 rw_153 (by decide +kernel) (by decide +kernel)
set_option maxRecDepth 100000 in
theorem cl_153 : okK 301 cod_301 b_301_153 = true := okK_of (t := rw_153) fb_153 (by decide +kernel)
noncomputable def rw_154 : List (Instr × Nat) := [(.iload 6, 2), (.ifCond .ne 15, 3), (.aload_n 3, 1), (.iconst 0, 1), (.laload, 1), (.iload 7, 2), (.i2l, 1), (.lcmp, 1), (.ifCond .eq 5, 3), (.iconst 0, 1), (.ireturn, 1)]
set_option maxRecDepth 100000 in
theorem fb_154 : Jvm.Free.DS.Facts code 3495 rw_154 := Jvm.Free.DS.facts 3495 rw_154 (by decide +kernel) (by decide +kernel)
set_option maxRecDepth 100000 in
theorem cl_154 : okK 301 cod_301 b_301_154 = true := okK_of (t := rw_154) fb_154 (by decide +kernel)
noncomputable def rw_155 : List (Instr × Nat) := [(.goto 420, 3)]
set_option maxRecDepth 100000 in
theorem fb_155 : Jvm.Free.DS.Facts code 3512 rw_155 := Jvm.Free.DS.facts 3512 rw_155 (by decide +kernel) (by decide +kernel)
set_option maxRecDepth 100000 in
theorem cl_155 : okK 301 cod_301 b_301_155 = true := okK_of (t := rw_155) fb_155 (by decide +kernel)
noncomputable def rw_156 : List (Instr × Nat) := [(.aload_n 1, 1), (.aload_n 0, 1), (.iload 5, 2), (.iconst 1, 1), (.iadd, 1), (.iaload, 1), (.aload_n 0, 1), (.iload 5, 2), (.iconst 2, 1), (.iadd, 1), (.iaload, 1), (.aload_n 3, 1), (.invokestatic 323, 3), (.istore 6, 2), (.aload_n 2, 1), (.aload_n 0, 1), (.iload 5, 2), (.iconst 1, 1), (.iadd, 1), (.iaload, 1), (.aload_n 0, 1), (.iload 5, 2), (.iconst 2, 1), (.iadd, 1), (.iaload, 1), (.invokevirtual 325, 3), (.istore 7, 2), (.aload_n 2, 1), (.invokevirtual 183, 3), (.iload 6, 2), (.if_icmp .eq 5, 3), (.iconst 0, 1), (.ireturn, 1)]
set_option maxRecDepth 100000 in
theorem fb_156 : Jvm.Free.DS.Facts code 3515 rw_156 := Jvm.Free.DS.facts 3515 rw_156 (by decide +kernel) (by decide +kernel)
set_option maxRecDepth 100000 in
theorem cl_156 : okK 301 cod_301 b_301_156 = true := okK_of (t := rw_156) fb_156 (by decide +kernel)
noncomputable def rw_157 : List (Instr × Nat) := [(.iload 6, 2), (.ifCond .ne 22, 3), (.aload_n 3, 1), (.iconst 0, 1), (.laload, 1), (.iload 7, 2), (.ifCond .eq 7, 3), (.lconst 1, 1), (.goto 4, 3)]
set_option maxRecDepth 100000 in
theorem fb_157 : Jvm.Free.DS.Facts code 3563 rw_157 := Jvm.Free.DS.facts 3563 rw_157 (by decide +kernel) (by decide +kernel)
set_option maxRecDepth 100000 in
theorem cl_157 : okK 301 cod_301 b_301_157 = true := okK_of (t := rw_157) fb_157 (by decide +kernel)
noncomputable def rw_158 : List (Instr × Nat) := [(.lconst 0, 1)]
set_option maxRecDepth 100000 in
theorem fb_158 : Jvm.Free.DS.Facts code 3580 rw_158 := Jvm.Free.DS.facts 3580 rw_158 (by decide +kernel) (by decide +kernel)
set_option maxRecDepth 100000 in
theorem cl_158 : okK 301 cod_301 b_301_158 = true := okK_of (t := rw_158) fb_158 (by decide +kernel)
noncomputable def rw_159 : List (Instr × Nat) := [(.lcmp, 1), (.ifCond .eq 5, 3), (.iconst 0, 1), (.ireturn, 1)]
set_option maxRecDepth 100000 in
theorem fb_159 : Jvm.Free.DS.Facts code 3581 rw_159 := Jvm.Free.DS.facts 3581 rw_159 (by decide +kernel) (by decide +kernel)
set_option maxRecDepth 100000 in
theorem cl_159 : okK 301 cod_301 b_301_159 = true := okK_of (t := rw_159) fb_159 (by decide +kernel)
noncomputable def rw_160 : List (Instr × Nat) := [(.goto 345, 3)]
set_option maxRecDepth 100000 in
theorem fb_160 : Jvm.Free.DS.Facts code 3587 rw_160 := Jvm.Free.DS.facts 3587 rw_160 (by decide +kernel) (by decide +kernel)
set_option maxRecDepth 100000 in
theorem cl_160 : okK 301 cod_301 b_301_160 = true := okK_of (t := rw_160) fb_160 (by decide +kernel)
noncomputable def rw_161 : List (Instr × Nat) := [(.aload_n 1, 1), (.invokevirtual 326, 3), (.aload_n 2, 1), (.invokevirtual 329, 3), (.if_icmp .eq 334, 3), (.iconst 0, 1), (.ireturn, 1)]
set_option maxRecDepth 100000 in
theorem fb_161 : Jvm.Free.DS.Facts code 3590 rw_161 := Jvm.Free.DS.facts 3590 rw_161 (by decide +kernel) (by decide +kernel)
set_option maxRecDepth 100000 in
theorem cl_161 : okK 301 cod_301 b_301_161 = true := okK_of (t := rw_161) fb_161 (by decide +kernel)
noncomputable def rw_162 : List (Instr × Nat) := [(.aload_n 1, 1), (.aload_n 0, 1), (.iload 5, 2), (.iconst 1, 1), (.iadd, 1), (.iaload, 1), (.aload_n 0, 1), (.iload 5, 2), (.iconst 2, 1), (.iadd, 1), (.iaload, 1), (.aload_n 3, 1), (.invokestatic 330, 3), (.istore 6, 2), (.aload_n 2, 1), (.aload_n 0, 1), (.iload 5, 2), (.iconst 1, 1), (.iadd, 1), (.iaload, 1), (.aload_n 0, 1), (.iload 5, 2), (.iconst 2, 1), (.iadd, 1), (.iaload, 1), (.invokevirtual 332, 3), (.istore 7, 2), (.aload_n 2, 1), (.invokevirtual 183, 3), (.iload 6, 2), (.if_icmp .eq 5, 3), (.iconst 0, 1), (.ireturn, 1)]
set_option maxRecDepth 100000 in
theorem fb_162 : Jvm.Free.DS.Facts code 3603 rw_162 := Jvm.Free.DS.facts 3603 rw_162 (by decide +kernel) (by decide +kernel)
set_option maxRecDepth 100000 in
theorem cl_162 : okK 301 cod_301 b_301_162 = true := okK_of (t := rw_162) fb_162 (by decide +kernel)
noncomputable def rw_163 : List (Instr × Nat) := [(.iload 6, 2), (.ifCond .ne 15, 3), (.aload_n 3, 1), (.iconst 0, 1), (.laload, 1), (.iload 7, 2), (.i2l, 1), (.lcmp, 1), (.ifCond .eq 5, 3), (.iconst 0, 1), (.ireturn, 1)]
set_option maxRecDepth 100000 in
theorem fb_163 : Jvm.Free.DS.Facts code 3651 rw_163 := Jvm.Free.DS.facts 3651 rw_163 (by decide +kernel) (by decide +kernel)
set_option maxRecDepth 100000 in
theorem cl_163 : okK 301 cod_301 b_301_163 = true := okK_of (t := rw_163) fb_163 (by decide +kernel)
noncomputable def rw_164 : List (Instr × Nat) := [(.goto 264, 3)]
set_option maxRecDepth 100000 in
theorem fb_164 : Jvm.Free.DS.Facts code 3668 rw_164 := Jvm.Free.DS.facts 3668 rw_164 (by decide +kernel) (by decide +kernel)
set_option maxRecDepth 100000 in
theorem cl_164 : okK 301 cod_301 b_301_164 = true := okK_of (t := rw_164) fb_164 (by decide +kernel)
noncomputable def rw_165 : List (Instr × Nat) := [(.aload_n 1, 1), (.aload_n 0, 1), (.iload 5, 2), (.iconst 1, 1), (.iadd, 1), (.iaload, 1), (.aload_n 0, 1), (.iload 5, 2), (.iconst 2, 1), (.iadd, 1), (.iaload, 1), (.aload_n 3, 1), (.invokestatic 333, 3), (.istore 6, 2), (.aload_n 2, 1), (.aload_n 0, 1), (.iload 5, 2), (.iconst 1, 1), (.iadd, 1), (.iaload, 1), (.aload_n 0, 1), (.iload 5, 2), (.iconst 2, 1), (.iadd, 1), (.iaload, 1), (.invokevirtual 335, 3), (.istore 7, 2), (.aload_n 2, 1), (.invokevirtual 183, 3), (.iload 6, 2), (.if_icmp .eq 5, 3), (.iconst 0, 1), (.ireturn, 1)]
set_option maxRecDepth 100000 in
theorem fb_165 : Jvm.Free.DS.Facts code 3671 rw_165 := Jvm.Free.DS.facts 3671 rw_165 (by decide +kernel) (by decide +kernel)
set_option maxRecDepth 100000 in
theorem cl_165 : okK 301 cod_301 b_301_165 = true := okK_of (t := rw_165) fb_165 (by decide +kernel)
noncomputable def rw_166 : List (Instr × Nat) := [(.iload 6, 2), (.ifCond .ne 15, 3), (.aload_n 3, 1), (.iconst 0, 1), (.laload, 1), (.iload 7, 2), (.i2l, 1), (.lcmp, 1), (.ifCond .eq 5, 3), (.iconst 0, 1), (.ireturn, 1)]
set_option maxRecDepth 100000 in
theorem fb_166 : Jvm.Free.DS.Facts code 3719 rw_166 := Jvm.Free.DS.facts 3719 rw_166 (by decide +kernel) (by decide +kernel)
set_option maxRecDepth 100000 in
theorem cl_166 : okK 301 cod_301 b_301_166 = true := okK_of (t := rw_166) fb_166 (by decide +kernel)
noncomputable def rw_167 : List (Instr × Nat) := [(.goto 196, 3)]
set_option maxRecDepth 100000 in
theorem fb_167 : Jvm.Free.DS.Facts code 3736 rw_167 := Jvm.Free.DS.facts 3736 rw_167 (by decide +kernel) (by decide +kernel)
set_option maxRecDepth 100000 in
theorem cl_167 : okK 301 cod_301 b_301_167 = true := okK_of (t := rw_167) fb_167 (by decide +kernel)
noncomputable def rw_168 : List (Instr × Nat) := [(.aload_n 1, 1), (.invokevirtual 336, 3), (.aload_n 2, 1), (.invokevirtual 339, 3), (.if_icmp .eq 185, 3), (.iconst 0, 1), (.ireturn, 1)]
set_option maxRecDepth 100000 in
theorem fb_168 : Jvm.Free.DS.Facts code 3739 rw_168 := Jvm.Free.DS.facts 3739 rw_168 (by decide +kernel) (by decide +kernel)
set_option maxRecDepth 100000 in
theorem cl_168 : okK 301 cod_301 b_301_168 = true := okK_of (t := rw_168) fb_168 (by decide +kernel)
noncomputable def rw_169 : List (Instr × Nat) := [(.aload_n 1, 1), (.aload_n 0, 1), (.iload 5, 2), (.iconst 1, 1), (.iadd, 1), (.iaload, 1), (.aload_n 0, 1), (.iload 5, 2), (.iconst 2, 1), (.iadd, 1), (.iaload, 1), (.aload 4, 2), (.invokestatic 340, 3), (.istore 6, 2), (.aload_n 2, 1), (.aload_n 0, 1), (.iload 5, 2), (.iconst 1, 1), (.iadd, 1), (.iaload, 1), (.aload_n 0, 1), (.iload 5, 2), (.iconst 2, 1), (.iadd, 1), (.iaload, 1), (.invokevirtual 343, 3), (.dstore 7, 2), (.aload_n 2, 1), (.invokevirtual 183, 3), (.iload 6, 2), (.if_icmp .eq 5, 3), (.iconst 0, 1), (.ireturn, 1)]
set_option maxRecDepth 100000 in
theorem fb_169 : Jvm.Free.DS.Facts code 3752 rw_169 := Jvm.Free.DS.facts 3752 rw_169 (by decide +kernel) (by decide +kernel)
set_option maxRecDepth 100000 in
theorem cl_169 : okK 301 cod_301 b_301_169 = true := okK_of (t := rw_169) fb_169 (by decide +kernel)
noncomputable def rw_170 : List (Instr × Nat) := [(.iload 6, 2), (.ifCond .ne 35, 3), (.aload 4, 2), (.iconst 0, 1), (.daload, 1), (.dload 7, 2), (.dcmp .l, 1), (.ifCond .eq 25, 3), (.aload 4, 2), (.iconst 0, 1), (.daload, 1), (.aload 4, 2), (.iconst 0, 1), (.daload, 1), (.dcmp .l, 1), (.ifCond .eq 11, 3), (.dload 7, 2), (.dload 7, 2), (.dcmp .l, 1), (.ifCond .ne 5, 3)]
set_option maxRecDepth 100000 in
theorem fb_170 : Jvm.Free.DS.Facts code 3801 rw_170 := Jvm.Free.DS.facts 3801 rw_170 (by decide +kernel) (by decide +kernel)
set_option maxRecDepth 100000 in
theorem cl_170 : okK 301 cod_301 b_301_170 = true := okK_of (t := rw_170) fb_170 (by decide +kernel)
noncomputable def rw_171 : List (Instr × Nat) := [(.iconst 0, 1), (.ireturn, 1)]
set_option maxRecDepth 100000 in
theorem fb_171 : Jvm.Free.DS.Facts code 3836 rw_171 := Jvm.Free.DS.facts 3836 rw_171 (by decide +kernel) (by decide +kernel)
set_option maxRecDepth 100000 in
theorem cl_171 : okK 301 cod_301 b_301_171 = true := okK_of (t := rw_171) fb_171 (by decide +kernel)
noncomputable def rw_172 : List (Instr × Nat) := [(.goto 94, 3)]
set_option maxRecDepth 100000 in
theorem fb_172 : Jvm.Free.DS.Facts code 3838 rw_172 := Jvm.Free.DS.facts 3838 rw_172 (by decide +kernel) (by decide +kernel)
set_option maxRecDepth 100000 in
theorem cl_172 : okK 301 cod_301 b_301_172 = true := okK_of (t := rw_172) fb_172 (by decide +kernel)
noncomputable def rw_173 : List (Instr × Nat) := [(.aload_n 1, 1), (.aload_n 0, 1), (.iload 5, 2), (.iconst 1, 1), (.iadd, 1), (.iaload, 1), (.aload 4, 2), (.invokestatic 344, 3), (.istore 6, 2), (.aload_n 2, 1), (.aload_n 0, 1), (.iload 5, 2), (.iconst 1, 1), (.iadd, 1), (.iaload, 1), (.invokevirtual 347, 3), (.fstore 7, 2), (.aload_n 2, 1), (.invokevirtual 183, 3), (.iload 6, 2), (.if_icmp .eq 5, 3), (.iconst 0, 1), (.ireturn, 1)]
set_option maxRecDepth 100000 in
theorem fb_173 : Jvm.Free.DS.Facts code 3841 rw_173 := Jvm.Free.DS.facts 3841 rw_173 (by decide +kernel) (by decide +kernel)
set_option maxRecDepth 100000 in
theorem cl_173 : okK 301 cod_301 b_301_173 = true := okK_of (t := rw_173) fb_173 (by decide +kernel)
noncomputable def rw_174 : List (Instr × Nat) := [(.iload 6, 2), (.ifCond .ne 36, 3), (.aload 4, 2), (.iconst 0, 1), (.daload, 1), (.fload 7, 2), (.f2d, 1), (.dcmp .l, 1), (.ifCond .eq 25, 3), (.aload 4, 2), (.iconst 0, 1), (.daload, 1), (.aload 4, 2), (.iconst 0, 1), (.daload, 1), (.dcmp .l, 1), (.ifCond .eq 11, 3), (.fload 7, 2), (.fload 7, 2), (.fcmp .l, 1), (.ifCond .ne 5, 3)]
set_option maxRecDepth 100000 in
theorem fb_174 : Jvm.Free.DS.Facts code 3878 rw_174 := Jvm.Free.DS.facts 3878 rw_174 (by decide +kernel) (by decide +kernel)
set_option maxRecDepth 100000 in
theorem cl_174 : okK 301 cod_301 b_301_174 = true := okK_of (t := rw_174) fb_174 (by decide +kernel)
noncomputable def rw_175 : List (Instr × Nat) := [(.iconst 0, 1), (.ireturn, 1)]
set_option maxRecDepth 100000 in
theorem fb_175 : Jvm.Free.DS.Facts code 3914 rw_175 := Jvm.Free.DS.facts 3914 rw_175 (by decide +kernel) (by decide +kernel)
set_option maxRecDepth 100000 in
theorem cl_175 : okK 301 cod_301 b_301_175 = true := okK_of (t := rw_175) fb_175 (by decide +kernel)
noncomputable def rw_176 : List (Instr × Nat) := [(.goto 16, 3)]
set_option maxRecDepth 100000 in
theorem fb_176 : Jvm.Free.DS.Facts code 3916 rw_176 := Jvm.Free.DS.facts 3916 rw_176 (by decide +kernel) (by decide +kernel)
set_option maxRecDepth 100000 in
theorem cl_176 : okK 301 cod_301 b_301_176 = true := okK_of (t := rw_176) fb_176 (by decide +kernel)
noncomputable def rw_177 : List (Instr × Nat) := [(.aload_n 1, 1), (.invokevirtual 348, 3), (.aload_n 2, 1), (.invokevirtual 351, 3), (.if_icmp .eq 5, 3), (.iconst 0, 1), (.ireturn, 1)]
set_option maxRecDepth 100000 in
theorem fb_177 : Jvm.Free.DS.Facts code 3919 rw_177 := Jvm.Free.DS.facts 3919 rw_177 (by decide +kernel) (by decide +kernel)
set_option maxRecDepth 100000 in
theorem cl_177 : okK 301 cod_301 b_301_177 = true := okK_of (t := rw_177) fb_177 (by decide +kernel)
noncomputable def rw_178 : List (Instr × Nat) := [(.iinc 5 6, 3), (.goto (-3907), 3)]
set_option maxRecDepth 100000 in
theorem fb_178 : Jvm.Free.DS.Facts code 3932 rw_178 := Jvm.Free.DS.facts 3932 rw_178 (by decide +kernel) (by decide +kernel)
set_option maxRecDepth 100000 in
theorem cl_178 : okK 301 cod_301 b_301_178 = true := okK_of (t := rw_178) fb_178 (by decide +kernel)
noncomputable def rw_179 : List (Instr × Nat) := [(.iconst 1, 1), (.ireturn, 1)]
set_option maxRecDepth 100000 in
theorem fb_179 : Jvm.Free.DS.Facts code 3938 rw_179 := Jvm.Free.DS.facts 3938 rw_179 (by decide +kernel) (by decide +kernel)
set_option maxRecDepth 100000 in
theorem cl_179 : okK 301 cod_301 b_301_179 = true := okK_of (t := rw_179) fb_179 (by decide +kernel)
set_option maxRecDepth 100000 in
theorem ck_301 : okM 301 cod_301 = true := Bool.and_eq_true_iff.mpr ⟨List.all_eq_true.mpr (List.forall_mem_cons.mpr ⟨cl_0, List.forall_mem_cons.mpr ⟨cl_1, List.forall_mem_cons.mpr ⟨cl_2, List.forall_mem_cons.mpr ⟨cl_3, List.forall_mem_cons.mpr ⟨cl_4, List.forall_mem_cons.mpr ⟨cl_5, List.forall_mem_cons.mpr ⟨cl_6, List.forall_mem_cons.mpr ⟨cl_7, List.forall_mem_cons.mpr ⟨cl_8, List.forall_mem_cons.mpr ⟨cl_9, List.forall_mem_cons.mpr ⟨cl_10, List.forall_mem_cons.mpr ⟨cl_11, List.forall_mem_cons.mpr ⟨cl_12, List.forall_mem_cons.mpr ⟨cl_13, List.forall_mem_cons.mpr ⟨cl_14, List.forall_mem_cons.mpr ⟨cl_15, List.forall_mem_cons.mpr ⟨cl_16, List.forall_mem_cons.mpr ⟨cl_17, List.forall_mem_cons.mpr ⟨cl_18, List.forall_mem_cons.mpr ⟨cl_19, List.forall_mem_cons.mpr ⟨cl_20, List.forall_mem_cons.mpr ⟨cl_21, List.forall_mem_cons.mpr ⟨cl_22, List.forall_mem_cons.mpr ⟨cl_23, List.forall_mem_cons.mpr ⟨cl_24, List.forall_mem_cons.mpr ⟨cl_25, List.forall_mem_cons.mpr ⟨cl_26, List.forall_mem_cons.mpr ⟨cl_27, List.forall_mem_cons.mpr ⟨cl_28, List.forall_mem_cons.mpr ⟨cl_29, List.forall_mem_cons.mpr ⟨cl_30, List.forall_mem_cons.mpr ⟨cl_31, List.forall_mem_cons.mpr ⟨cl_32, List.forall_mem_cons.mpr ⟨cl_33, List.forall_mem_cons.mpr ⟨cl_34, List.forall_mem_cons.mpr ⟨cl_35, List.forall_mem_cons.mpr ⟨cl_36, List.forall_mem_cons.mpr ⟨cl_37, List.forall_mem_cons.mpr ⟨cl_38, List.forall_mem_cons.mpr ⟨cl_39, List.forall_mem_cons.mpr ⟨cl_40, List.forall_mem_cons.mpr ⟨cl_41, List.forall_mem_cons.mpr ⟨cl_42, List.forall_mem_cons.mpr ⟨cl_43, List.forall_mem_cons.mpr ⟨cl_44, List.forall_mem_cons.mpr ⟨cl_45, List.forall_mem_cons.mpr ⟨cl_46, List.forall_mem_cons.mpr ⟨cl_47, List.forall_mem_cons.mpr ⟨cl_48, List.forall_mem_cons.mpr ⟨cl_49, List.forall_mem_cons.mpr ⟨cl_50, List.forall_mem_cons.mpr ⟨cl_51, List.forall_mem_cons.mpr ⟨cl_52, List.forall_mem_cons.mpr ⟨cl_53, List.forall_mem_cons.mpr ⟨cl_54, List.forall_mem_cons.mpr ⟨cl_55, List.forall_mem_cons.mpr ⟨cl_56, List.forall_mem_cons.mpr ⟨cl_57, List.forall_mem_cons.mpr ⟨cl_58, List.forall_mem_cons.mpr ⟨cl_59, List.forall_mem_cons.mpr ⟨cl_60, List.forall_mem_cons.mpr ⟨cl_61, List.forall_mem_cons.mpr ⟨cl_62, List.forall_mem_cons.mpr ⟨cl_63, List.forall_mem_cons.mpr ⟨cl_64, List.forall_mem_cons.mpr ⟨cl_65, List.forall_mem_cons.mpr ⟨cl_66, List.forall_mem_cons.mpr ⟨cl_67, List.forall_mem_cons.mpr ⟨cl_68, List.forall_mem_cons.mpr ⟨cl_69, List.forall_mem_cons.mpr ⟨cl_70, List.forall_mem_cons.mpr ⟨cl_71, List.forall_mem_cons.mpr ⟨cl_72, List.forall_mem_cons.mpr ⟨cl_73, List.forall_mem_cons.mpr ⟨cl_74, List.forall_mem_cons.mpr ⟨cl_75, List.forall_mem_cons.mpr ⟨cl_76, List.forall_mem_cons.mpr ⟨cl_77, List.forall_mem_cons.mpr ⟨cl_78, List.forall_mem_cons.mpr ⟨cl_79, List.forall_mem_cons.mpr ⟨cl_80, List.forall_mem_cons.mpr ⟨cl_81, List.forall_mem_cons.mpr ⟨cl_82, List.forall_mem_cons.mpr ⟨cl_83, List.forall_mem_cons.mpr ⟨cl_84, List.forall_mem_cons.mpr ⟨cl_85, List.forall_mem_cons.mpr ⟨cl_86, List.forall_mem_cons.mpr ⟨cl_87, List.forall_mem_cons.mpr ⟨cl_88, List.forall_mem_cons.mpr ⟨cl_89, List.forall_mem_cons.mpr ⟨cl_90, List.forall_mem_cons.mpr ⟨cl_91, List.forall_mem_cons.mpr ⟨cl_92, List.forall_mem_cons.mpr ⟨cl_93, List.forall_mem_cons.mpr ⟨cl_94, List.forall_mem_cons.mpr ⟨cl_95, List.forall_mem_cons.mpr ⟨cl_96, List.forall_mem_cons.mpr ⟨cl_97, List.forall_mem_cons.mpr ⟨cl_98, List.forall_mem_cons.mpr ⟨cl_99, List.forall_mem_cons.mpr ⟨cl_100, List.forall_mem_cons.mpr ⟨cl_101, List.forall_mem_cons.mpr ⟨cl_102, List.forall_mem_cons.mpr ⟨cl_103, List.forall_mem_cons.mpr ⟨cl_104, List.forall_mem_cons.mpr ⟨cl_105, List.forall_mem_cons.mpr ⟨cl_106, List.forall_mem_cons.mpr ⟨cl_107, List.forall_mem_cons.mpr ⟨cl_108, List.forall_mem_cons.mpr ⟨cl_109, List.forall_mem_cons.mpr ⟨cl_110, List.forall_mem_cons.mpr ⟨cl_111, List.forall_mem_cons.mpr ⟨cl_112, List.forall_mem_cons.mpr ⟨cl_113, List.forall_mem_cons.mpr ⟨cl_114, List.forall_mem_cons.mpr ⟨cl_115, List.forall_mem_cons.mpr ⟨cl_116, List.forall_mem_cons.mpr ⟨cl_117, List.forall_mem_cons.mpr ⟨cl_118, List.forall_mem_cons.mpr ⟨cl_119, List.forall_mem_cons.mpr ⟨cl_120, List.forall_mem_cons.mpr ⟨cl_121, List.forall_mem_cons.mpr ⟨cl_122, List.forall_mem_cons.mpr ⟨cl_123, List.forall_mem_cons.mpr ⟨cl_124, List.forall_mem_cons.mpr ⟨cl_125, List.forall_mem_cons.mpr ⟨cl_126, List.forall_mem_cons.mpr ⟨cl_127, List.forall_mem_cons.mpr ⟨cl_128, List.forall_mem_cons.mpr ⟨cl_129, List.forall_mem_cons.mpr ⟨cl_130, List.forall_mem_cons.mpr ⟨cl_131, List.forall_mem_cons.mpr ⟨cl_132, List.forall_mem_cons.mpr ⟨cl_133, List.forall_mem_cons.mpr ⟨cl_134, List.forall_mem_cons.mpr ⟨cl_135, List.forall_mem_cons.mpr ⟨cl_136, List.forall_mem_cons.mpr ⟨cl_137, List.forall_mem_cons.mpr ⟨cl_138, List.forall_mem_cons.mpr ⟨cl_139, List.forall_mem_cons.mpr ⟨cl_140, List.forall_mem_cons.mpr ⟨cl_141, List.forall_mem_cons.mpr ⟨cl_142, List.forall_mem_cons.mpr ⟨cl_143, List.forall_mem_cons.mpr ⟨cl_144, List.forall_mem_cons.mpr ⟨cl_145, List.forall_mem_cons.mpr ⟨cl_146, List.forall_mem_cons.mpr ⟨cl_147, List.forall_mem_cons.mpr ⟨cl_148, List.forall_mem_cons.mpr ⟨cl_149, List.forall_mem_cons.mpr ⟨cl_150, List.forall_mem_cons.mpr ⟨cl_151, List.forall_mem_cons.mpr ⟨cl_152, List.forall_mem_cons.mpr ⟨cl_153, List.forall_mem_cons.mpr ⟨cl_154, List.forall_mem_cons.mpr ⟨cl_155, List.forall_mem_cons.mpr ⟨cl_156, List.forall_mem_cons.mpr ⟨cl_157, List.forall_mem_cons.mpr ⟨cl_158, List.forall_mem_cons.mpr ⟨cl_159, List.forall_mem_cons.mpr ⟨cl_160, List.forall_mem_cons.mpr ⟨cl_161, List.forall_mem_cons.mpr ⟨cl_162, List.forall_mem_cons.mpr ⟨cl_163, List.forall_mem_cons.mpr ⟨cl_164, List.forall_mem_cons.mpr ⟨cl_165, List.forall_mem_cons.mpr ⟨cl_166, List.forall_mem_cons.mpr ⟨cl_167, List.forall_mem_cons.mpr ⟨cl_168, List.forall_mem_cons.mpr ⟨cl_169, List.forall_mem_cons.mpr ⟨cl_170, List.forall_mem_cons.mpr ⟨cl_171, List.forall_mem_cons.mpr ⟨cl_172, List.forall_mem_cons.mpr ⟨cl_173, List.forall_mem_cons.mpr ⟨cl_174, List.forall_mem_cons.mpr ⟨cl_175, List.forall_mem_cons.mpr ⟨cl_176, List.forall_mem_cons.mpr ⟨cl_177, List.forall_mem_cons.mpr ⟨cl_178, List.forall_mem_cons.mpr ⟨cl_179, fun _ h => absurd h List.not_mem_nil⟩⟩⟩⟩⟩⟩⟩⟩⟩⟩⟩⟩⟩⟩⟩⟩⟩⟩⟩⟩⟩⟩⟩⟩⟩⟩⟩⟩⟩⟩⟩⟩⟩⟩⟩⟩⟩⟩⟩⟩⟩⟩⟩⟩⟩⟩⟩⟩⟩⟩⟩⟩⟩⟩⟩⟩⟩⟩⟩⟩⟩⟩⟩⟩⟩⟩⟩⟩⟩⟩⟩⟩⟩⟩⟩⟩⟩⟩⟩⟩⟩⟩⟩⟩⟩⟩⟩⟩⟩⟩⟩⟩⟩⟩⟩⟩⟩⟩⟩⟩⟩⟩⟩⟩⟩⟩⟩⟩⟩⟩⟩⟩⟩⟩⟩⟩⟩⟩⟩⟩⟩⟩⟩⟩⟩⟩⟩⟩⟩⟩⟩⟩⟩⟩⟩⟩⟩⟩⟩⟩⟩⟩⟩⟩⟩⟩⟩⟩⟩⟩⟩⟩⟩⟩⟩⟩⟩⟩⟩⟩⟩⟩⟩⟩⟩⟩⟩⟩⟩⟩⟩⟩⟩⟩⟩⟩⟩⟩⟩⟩), rfl⟩
