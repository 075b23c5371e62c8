/-! the law's own body: its entries are right, block by block, by the library's linear look at the bytes (Jvm.Free.DS.facts) -/
def isPl (i : Instr) : Bool := match i with
  | .nop => false
  | .monitorenter => false
  | .athrow => false
  | _ => true
theorem okE_pl {z pc len : Nat} {i : Instr} {ext : List Nat} {bs : List (List En)} (h : isPl i = true) : okE z bs (pc, i, len, ext) = (match decode (mB z) pc with | .ok (j, l) => decide (l = len) && lnOk j l && okJ z bs pc j i ext | .error _ => false) := by
  cases i <;> first | rfl | exact absurd h (by decide)
def okNp (bs : List (List En)) (e : En) : Bool := match e.2.1 with
  | .nop => (match e.2.2.2 with | [b] => decide (e.2.2.1 = 0) && decide (hpc bs b = e.1) | _ => false)
  | _ => false
theorem okE_np {z : Nat} {bs : List (List En)} {e : En} (h : okNp bs e = true) : okE z bs e = true := by
  obtain ⟨pc, i, len, ext⟩ := e
  cases i <;> first | exact h | cases h
noncomputable def wlk (z : Nat) (bs : List (List En)) : Nat → List En → List (Instr × Nat) → Bool
  | _, [], _ => true
  | pc, e :: r, [] => decide (e.1 = pc) && okNp bs e && wlk z bs (pc + e.2.2.1) r []
  | pc, e :: r, (j, l) :: t => decide (e.1 = pc) && (isPl e.2.1 && decide (l = e.2.2.1) && lnOk j l && okJ z bs pc j e.2.1 e.2.2.2) && wlk z bs (pc + e.2.2.1) r t
theorem wlk_ok {z : Nat} {bs : List (List En)} : ∀ (cs : List En) (pc : Nat) (t : List (Instr × Nat)), Jvm.Free.DS.Facts (mB z) pc t → wlk z bs pc cs t = true → chn pc cs = true ∧ cs.all (okE z bs) = true
  | [], _, _, _, _ => ⟨rfl, rfl⟩
  | e :: r, pc, [], _, h => by
    simp only [wlk, Bool.and_eq_true, decide_eq_true_eq] at h
    obtain ⟨⟨rfl, h2⟩, h3⟩ := h
    obtain ⟨g1, g2⟩ := wlk_ok r (e.1 + e.2.2.1) [] trivial h3
    refine ⟨by simp [chn, g1], ?_⟩
    rw [List.all_cons, Bool.and_eq_true]
    exact ⟨okE_np h2, g2⟩
  | (p0, i, len, ext) :: r, pc, (j, l) :: t, hF, h => by
    simp only [wlk, Bool.and_eq_true, decide_eq_true_eq] at h
    obtain ⟨⟨rfl, ⟨⟨h0, rfl⟩, h2⟩, h3⟩, h4⟩ := h
    obtain ⟨f1, f2⟩ := hF
    obtain ⟨g1, g2⟩ := wlk_ok r (p0 + l) t f2 h4
    refine ⟨by simp [chn, g1], ?_⟩
    rw [List.all_cons, Bool.and_eq_true]
    refine ⟨?_, g2⟩
    rw [okE_pl h0, f1]
    simp [h2, h3]
theorem okK_of {z : Nat} {bs : List (List En)} {e : En} {cs : List En} {t : List (Instr × Nat)} (hF : Jvm.Free.DS.Facts (mB z) e.1 t) (h : wlk z bs e.1 (e :: cs) t = true) : okK z bs (e :: cs) = true := by
  obtain ⟨h1, h2⟩ := wlk_ok (e :: cs) e.1 t hF h
  unfold okK
  rw [Bool.and_eq_true]
  exact ⟨h1, h2⟩
noncomputable def rw_0 : List (Instr × Nat) := [(.new 22, 3), (.dup, 1), (.aload_n 0, 1), (.invokespecial 168, 3), (.astore_n 1, 1), (.new 10, 3), (.dup, 1), (.invokespecial 171, 3), (.astore_n 2, 1), (.new 31, 3), (.dup, 1), (.invokespecial 172, 3), (.astore_n 3, 1), (.iconst 1, 1), (.aload_n 1, 1), (.aload_n 1, 1), (.iconst 3, 1), (.invokevirtual 21, 3), (.ifCond .ne 8, 3), (.bipush 6, 2), (.goto 4, 3)]
set_option maxRecDepth 100000 in
theorem fb_0 : Jvm.Free.DS.Facts code 0 rw_0 := Jvm.Free.DS.facts 0 rw_0 (by decide +kernel) (by decide +kernel)
set_option maxRecDepth 100000 in
theorem cl_0 : okK 301 cod_301 b_301_0 = true := okK_of (t := rw_0) fb_0 (by decide +kernel)
noncomputable def rw_1 : List (Instr × Nat) := [(.iconst 3, 1)]
set_option maxRecDepth 100000 in
theorem fb_1 : Jvm.Free.DS.Facts code 40 rw_1 := Jvm.Free.DS.facts 40 rw_1 (by decide +kernel) (by decide +kernel)
set_option maxRecDepth 100000 in
theorem cl_1 : okK 301 cod_301 b_301_1 = true := okK_of (t := rw_1) fb_1 (by decide +kernel)
noncomputable def rw_2 : List (Instr × Nat) := [(.invokevirtual 21, 3), (.iadd, 1), (.istore 4, 2), (.iconst 0, 1), (.istore 5, 2)]
set_option maxRecDepth 100000 in
theorem fb_2 : Jvm.Free.DS.Facts code 41 rw_2 := Jvm.Free.DS.facts 41 rw_2 (by decide +kernel) (by decide +kernel)
set_option maxRecDepth 100000 in
theorem cl_2 : okK 301 cod_301 b_301_2 = true := okK_of (t := rw_2) fb_2 (by decide +kernel)
noncomputable def rw_3 : List (Instr × Nat) := [(.iload 5, 2), (.iload 4, 2), (.if_icmp .ge 54, 3), (.aload_n 3, 1), (.aload_n 2, 1), (.aload_n 1, 1), (.ldc 173, 2), (.invokevirtual 21, 3), (.iconst 1, 1), (.aload_n 1, 1), (.bipush 20, 2), (.invokevirtual 21, 3), (.iadd, 1), (.iconst 1, 1), (.aload_n 1, 1), (.aload_n 1, 1), (.iconst 2, 1), (.invokevirtual 21, 3), (.ifCond .ne 8, 3), (.bipush 64, 2), (.goto 5, 3)]
set_option maxRecDepth 100000 in
theorem fb_3 : Jvm.Free.DS.Facts code 50 rw_3 := Jvm.Free.DS.facts 50 rw_3 (by decide +kernel) (by decide +kernel)
set_option maxRecDepth 100000 in
theorem cl_3 : okK 301 cod_301 b_301_3 = true := okK_of (t := rw_3) fb_3 (by decide +kernel)
noncomputable def rw_4 : List (Instr × Nat) := [(.bipush 6, 2)]
set_option maxRecDepth 100000 in
theorem fb_4 : Jvm.Free.DS.Facts code 88 rw_4 := Jvm.Free.DS.facts 88 rw_4 (by decide +kernel) (by decide +kernel)
set_option maxRecDepth 100000 in
theorem cl_4 : okK 301 cod_301 b_301_4 = true := okK_of (t := rw_4) fb_4 (by decide +kernel)
noncomputable def rw_5 : List (Instr × Nat) := [(.invokevirtual 21, 3), (.iadd, 1), (.invokevirtual 174, 3), (.ifCond .ne 5, 3), (.iconst 0, 1), (.ireturn, 1)]
set_option maxRecDepth 100000 in
theorem fb_5 : Jvm.Free.DS.Facts code 90 rw_5 := Jvm.Free.DS.facts 90 rw_5 (by decide +kernel) (by decide +kernel)
set_option maxRecDepth 100000 in
theorem cl_5 : okK 301 cod_301 b_301_5 = true := okK_of (t := rw_5) fb_5 (by decide +kernel)
noncomputable def rw_6 : List (Instr × Nat) := [(.iinc 5 1, 3), (.goto (-55), 3)]
set_option maxRecDepth 100000 in
theorem fb_6 : Jvm.Free.DS.Facts code 102 rw_6 := Jvm.Free.DS.facts 102 rw_6 (by decide +kernel) (by decide +kernel)
set_option maxRecDepth 100000 in
theorem cl_6 : okK 301 cod_301 b_301_6 = true := okK_of (t := rw_6) fb_6 (by decide +kernel)
noncomputable def rw_7 : List (Instr × Nat) := [(.aload_n 1, 1), (.bipush 12, 2), (.invokevirtual 21, 3), (.istore 5, 2)]
set_option maxRecDepth 100000 in
theorem fb_7 : Jvm.Free.DS.Facts code 108 rw_7 := Jvm.Free.DS.facts 108 rw_7 (by decide +kernel) (by decide +kernel)
set_option maxRecDepth 100000 in
theorem cl_7 : okK 301 cod_301 b_301_7 = true := okK_of (t := rw_7) fb_7 (by decide +kernel)
noncomputable def rw_8 : List (Instr × Nat) := [(.iload 5, 2), (.ifCond .le 130, 3), (.aload_n 1, 1), (.bipush 120, 2), (.invokevirtual 21, 3), (.istore 6, 2), (.aload_n 3, 1), (.getfield 72, 3), (.iload 6, 2), (.baload, 1), (.ifCond .ne 6, 3), (.goto 103, 3)]
set_option maxRecDepth 100000 in
theorem fb_8 : Jvm.Free.DS.Facts code 116 rw_8 := Jvm.Free.DS.facts 116 rw_8 (by decide +kernel) (by decide +kernel)
set_option maxRecDepth 100000 in
theorem cl_8 : okK 301 cod_301 b_301_8 = true := okK_of (t := rw_8) fb_8 (by decide +kernel)
noncomputable def rw_9 : List (Instr × Nat) := [(.aload_n 1, 1), (.iconst 3, 1), (.invokevirtual 21, 3), (.ifCond .ne 32, 3), (.aload_n 3, 1), (.getfield 72, 3), (.iload 6, 2), (.iconst 0, 1), (.bastore, 1), (.aload_n 3, 1), (.dup, 1), (.getfield 158, 3), (.iconst 1, 1), (.isub, 1), (.putfield 158, 3), (.aload_n 2, 1), (.iload 6, 2), (.invokevirtual 178, 3), (.ifCond .eq 68, 3), (.iconst 0, 1), (.ireturn, 1)]
set_option maxRecDepth 100000 in
theorem fb_9 : Jvm.Free.DS.Facts code 142 rw_9 := Jvm.Free.DS.facts 142 rw_9 (by decide +kernel) (by decide +kernel)
set_option maxRecDepth 100000 in
theorem cl_9 : okK 301 cod_301 b_301_9 = true := okK_of (t := rw_9) fb_9 (by decide +kernel)
noncomputable def rw_10 : List (Instr × Nat) := [(.aload_n 1, 1), (.iconst 4, 1), (.invokevirtual 21, 3), (.istore 7, 2), (.aload_n 1, 1), (.iconst 4, 1), (.invokevirtual 21, 3), (.ifCond .ne 8, 3), (.bipush 100, 2), (.goto 7, 3)]
set_option maxRecDepth 100000 in
theorem fb_10 : Jvm.Free.DS.Facts code 179 rw_10 := Jvm.Free.DS.facts 179 rw_10 (by decide +kernel) (by decide +kernel)
set_option maxRecDepth 100000 in
theorem cl_10 : okK 301 cod_301 b_301_10 = true := okK_of (t := rw_10) fb_10 (by decide +kernel)
noncomputable def rw_11 : List (Instr × Nat) := [(.aload_n 1, 1), (.invokevirtual 26, 3)]
set_option maxRecDepth 100000 in
theorem fb_11 : Jvm.Free.DS.Facts code 199 rw_11 := Jvm.Free.DS.facts 199 rw_11 (by decide +kernel) (by decide +kernel)
set_option maxRecDepth 100000 in
theorem cl_11 : okK 301 cod_301 b_301_11 = true := okK_of (t := rw_11) fb_11 (by decide +kernel)
noncomputable def rw_12 : List (Instr × Nat) := [(.istore 8, 2), (.aload_n 2, 1), (.iload 6, 2), (.iload 7, 2), (.iload 8, 2), (.invokevirtual 181, 3), (.aload_n 3, 1), (.getfield 44, 3), (.iload 6, 2), (.aaload, 1), (.iload 7, 2), (.iaload, 1), (.if_icmp .eq 5, 3), (.iconst 0, 1), (.ireturn, 1)]
set_option maxRecDepth 100000 in
theorem fb_12 : Jvm.Free.DS.Facts code 203 rw_12 := Jvm.Free.DS.facts 203 rw_12 (by decide +kernel) (by decide +kernel)
set_option maxRecDepth 100000 in
theorem cl_12 : okK 301 cod_301 b_301_12 = true := okK_of (t := rw_12) fb_12 (by decide +kernel)
noncomputable def rw_13 : List (Instr × Nat) := [(.aload_n 3, 1), (.getfield 44, 3), (.iload 6, 2), (.aaload, 1), (.iload 7, 2), (.iload 8, 2), (.iastore, 1)]
set_option maxRecDepth 100000 in
theorem fb_13 : Jvm.Free.DS.Facts code 230 rw_13 := Jvm.Free.DS.facts 230 rw_13 (by decide +kernel) (by decide +kernel)
set_option maxRecDepth 100000 in
theorem cl_13 : okK 301 cod_301 b_301_13 = true := okK_of (t := rw_13) fb_13 (by decide +kernel)
noncomputable def rw_14 : List (Instr × Nat) := [(.iinc 5 (-1), 3), (.goto (-129), 3)]
set_option maxRecDepth 100000 in
theorem fb_14 : Jvm.Free.DS.Facts code 242 rw_14 := Jvm.Free.DS.facts 242 rw_14 (by decide +kernel) (by decide +kernel)
set_option maxRecDepth 100000 in
theorem cl_14 : okK 301 cod_301 b_301_14 = true := okK_of (t := rw_14) fb_14 (by decide +kernel)
noncomputable def rw_15 : List (Instr × Nat) := [(.aload_n 1, 1), (.iconst 3, 1), (.invokevirtual 21, 3), (.ifCond .ne 29, 3), (.aload_n 3, 1), (.getfield 158, 3), (.bipush 120, 2), (.if_icmp .ge 20, 3), (.aload_n 3, 1), (.aload_n 2, 1), (.aload_n 1, 1), (.ldc 173, 2), (.invokevirtual 21, 3), (.iconst 1, 1), (.bipush 64, 2), (.invokevirtual 174, 3), (.ifCond .eq 14, 3)]
set_option maxRecDepth 100000 in
theorem fb_15 : Jvm.Free.DS.Facts code 248 rw_15 := Jvm.Free.DS.facts 248 rw_15 (by decide +kernel) (by decide +kernel)
set_option maxRecDepth 100000 in
theorem cl_15 : okK 301 cod_301 b_301_15 = true := okK_of (t := rw_15) fb_15 (by decide +kernel)
noncomputable def rw_16 : List (Instr × Nat) := [(.aload_n 2, 1), (.invokevirtual 184, 3), (.aload_n 3, 1), (.getfield 158, 3), (.if_icmp .eq 5, 3)]
set_option maxRecDepth 100000 in
theorem fb_16 : Jvm.Free.DS.Facts code 282 rw_16 := Jvm.Free.DS.facts 282 rw_16 (by decide +kernel) (by decide +kernel)
set_option maxRecDepth 100000 in
theorem cl_16 : okK 301 cod_301 b_301_16 = true := okK_of (t := rw_16) fb_16 (by decide +kernel)
noncomputable def rw_17 : List (Instr × Nat) := [(.iconst 0, 1), (.ireturn, 1)]
set_option maxRecDepth 100000 in
theorem fb_17 : Jvm.Free.DS.Facts code 293 rw_17 := Jvm.Free.DS.facts 293 rw_17 (by decide +kernel) (by decide +kernel)
set_option maxRecDepth 100000 in
theorem cl_17 : okK 301 cod_301 b_301_17 = true := okK_of (t := rw_17) fb_17 (by decide +kernel)
noncomputable def rw_18 : List (Instr × Nat) := [(.iconst 0, 1), (.istore 5, 2)]
set_option maxRecDepth 100000 in
theorem fb_18 : Jvm.Free.DS.Facts code 295 rw_18 := Jvm.Free.DS.facts 295 rw_18 (by decide +kernel) (by decide +kernel)
set_option maxRecDepth 100000 in
theorem cl_18 : okK 301 cod_301 b_301_18 = true := okK_of (t := rw_18) fb_18 (by decide +kernel)
noncomputable def rw_19 : List (Instr × Nat) := [(.iload 5, 2), (.iconst 4, 1), (.if_icmp .ge 21, 3), (.aload_n 2, 1), (.aload_n 3, 1), (.iload 5, 2), (.invokestatic 186, 3), (.ifCond .ne 5, 3), (.iconst 0, 1), (.ireturn, 1)]
set_option maxRecDepth 100000 in
theorem fb_19 : Jvm.Free.DS.Facts code 298 rw_19 := Jvm.Free.DS.facts 298 rw_19 (by decide +kernel) (by decide +kernel)
set_option maxRecDepth 100000 in
theorem cl_19 : okK 301 cod_301 b_301_19 = true := okK_of (t := rw_19) fb_19 (by decide +kernel)
noncomputable def rw_20 : List (Instr × Nat) := [(.iinc 5 1, 3), (.goto (-21), 3)]
set_option maxRecDepth 100000 in
theorem fb_20 : Jvm.Free.DS.Facts code 316 rw_20 := Jvm.Free.DS.facts 316 rw_20 (by decide +kernel) (by decide +kernel)
set_option maxRecDepth 100000 in
theorem cl_20 : okK 301 cod_301 b_301_20 = true := okK_of (t := rw_20) fb_20 (by decide +kernel)
noncomputable def rw_21 : List (Instr × Nat) := [(.aload_n 2, 1), (.aload_n 3, 1), (.aload_n 1, 1), (.invokestatic 190, 3), (.astore 5, 2), (.aload 5, 2), (.ifnull 10, 3), (.aload_n 2, 1), (.invokevirtual 194, 3), (.ifCond .eq 5, 3)]
set_option maxRecDepth 100000 in
theorem fb_21 : Jvm.Free.DS.Facts code 322 rw_21 := Jvm.Free.DS.facts 322 rw_21 (by decide +kernel) (by decide +kernel)
set_option maxRecDepth 100000 in
theorem cl_21 : okK 301 cod_301 b_301_21 = true := okK_of (t := rw_21) fb_21 (by decide +kernel)
noncomputable def rw_22 : List (Instr × Nat) := [(.iconst 0, 1), (.ireturn, 1)]
set_option maxRecDepth 100000 in
theorem fb_22 : Jvm.Free.DS.Facts code 342 rw_22 := Jvm.Free.DS.facts 342 rw_22 (by decide +kernel) (by decide +kernel)
set_option maxRecDepth 100000 in
theorem cl_22 : okK 301 cod_301 b_301_22 = true := okK_of (t := rw_22) fb_22 (by decide +kernel)
noncomputable def rw_23 : List (Instr × Nat) := [(.aload_n 1, 1), (.bipush 6, 2), (.invokevirtual 21, 3), (.istore 6, 2), (.aload_n 1, 1), (.iconst 3, 1), (.invokevirtual 21, 3), (.istore 7, 2), (.aload_n 2, 1), (.aload_n 3, 1), (.aload 5, 2), (.iload 7, 2), (.aaload, 1), (.iload 7, 2), (.aload_n 1, 1), (.iconst 4, 1), (.invokevirtual 21, 3), (.invokestatic 197, 3), (.ifCond .eq 30, 3), (.aload_n 2, 1), (.aload_n 3, 1), (.aload 5, 2), (.iload 7, 2), (.aaload, 1), (.iload 7, 2), (.iconst 1, 1), (.aload_n 1, 1), (.bipush 15, 2), (.invokevirtual 21, 3), (.iadd, 1), (.invokestatic 201, 3), (.ifCond .eq 7, 3), (.iconst 1, 1), (.goto 4, 3)]
set_option maxRecDepth 100000 in
theorem fb_23 : Jvm.Free.DS.Facts code 344 rw_23 := Jvm.Free.DS.facts 344 rw_23 (by decide +kernel) (by decide +kernel)
set_option maxRecDepth 100000 in
theorem cl_23 : okK 301 cod_301 b_301_23 = true := okK_of (t := rw_23) fb_23 (by decide +kernel)
noncomputable def rw_24 : List (Instr × Nat) := [(.iconst 0, 1)]
set_option maxRecDepth 100000 in
theorem fb_24 : Jvm.Free.DS.Facts code 406 rw_24 := Jvm.Free.DS.facts 406 rw_24 (by decide +kernel) (by decide +kernel)
set_option maxRecDepth 100000 in
theorem cl_24 : okK 301 cod_301 b_301_24 = true := okK_of (t := rw_24) fb_24 (by decide +kernel)
noncomputable def rw_25 : List (Instr × Nat) := [(.istore 8, 2), (.iload 8, 2), (.ifCond .eq 51, 3), (.iload 6, 2), (.iconst 2, 1), (.if_icmp .ge 12, 3), (.aload_n 2, 1), (.aload_n 3, 1), (.aload_n 1, 1), (.invokestatic 204, 3), (.ifCond .eq 36, 3)]
set_option maxRecDepth 100000 in
theorem fb_25 : Jvm.Free.DS.Facts code 407 rw_25 := Jvm.Free.DS.facts 407 rw_25 (by decide +kernel) (by decide +kernel)
set_option maxRecDepth 100000 in
theorem cl_25 : okK 301 cod_301 b_301_25 = true := okK_of (t := rw_25) fb_25 (by decide +kernel)
noncomputable def rw_26 : List (Instr × Nat) := [(.iload 6, 2), (.iconst 2, 1), (.if_icmp .ne 14, 3), (.aload_n 2, 1), (.aload_n 3, 1), (.aload 5, 2), (.aload_n 1, 1), (.invokestatic 208, 3), (.ifCond .eq 19, 3)]
set_option maxRecDepth 100000 in
theorem fb_26 : Jvm.Free.DS.Facts code 429 rw_26 := Jvm.Free.DS.facts 429 rw_26 (by decide +kernel) (by decide +kernel)
set_option maxRecDepth 100000 in
theorem cl_26 : okK 301 cod_301 b_301_26 = true := okK_of (t := rw_26) fb_26 (by decide +kernel)
noncomputable def rw_27 : List (Instr × Nat) := [(.iload 6, 2), (.iconst 3, 1), (.if_icmp .ne 15, 3), (.aload_n 2, 1), (.aload_n 3, 1), (.aload 5, 2), (.invokestatic 212, 3), (.ifCond .ne 5, 3)]
set_option maxRecDepth 100000 in
theorem fb_27 : Jvm.Free.DS.Facts code 446 rw_27 := Jvm.Free.DS.facts 446 rw_27 (by decide +kernel) (by decide +kernel)
set_option maxRecDepth 100000 in
theorem cl_27 : okK 301 cod_301 b_301_27 = true := okK_of (t := rw_27) fb_27 (by decide +kernel)
noncomputable def rw_28 : List (Instr × Nat) := [(.iconst 0, 1), (.ireturn, 1)]
set_option maxRecDepth 100000 in
theorem fb_28 : Jvm.Free.DS.Facts code 462 rw_28 := Jvm.Free.DS.facts 462 rw_28 (by decide +kernel) (by decide +kernel)
set_option maxRecDepth 100000 in
theorem cl_28 : okK 301 cod_301 b_301_28 = true := okK_of (t := rw_28) fb_28 (by decide +kernel)
noncomputable def rw_29 : List (Instr × Nat) := [(.iload 6, 2), (.iconst 3, 1), (.if_icmp .le 16, 3), (.aload_n 2, 1), (.aload_n 3, 1), (.aload 5, 2), (.aload_n 1, 1), (.invokestatic 216, 3), (.ifCond .ne 5, 3), (.iconst 0, 1), (.ireturn, 1)]
set_option maxRecDepth 100000 in
theorem fb_29 : Jvm.Free.DS.Facts code 464 rw_29 := Jvm.Free.DS.facts 464 rw_29 (by decide +kernel) (by decide +kernel)
set_option maxRecDepth 100000 in
theorem cl_29 : okK 301 cod_301 b_301_29 = true := okK_of (t := rw_29) fb_29 (by decide +kernel)
noncomputable def rw_30 : List (Instr × Nat) := [(.aload_n 2, 1), (.aload_n 3, 1), (.aload_n 1, 1), (.invokestatic 219, 3), (.ireturn, 1)]
set_option maxRecDepth 100000 in
theorem fb_30 : Jvm.Free.DS.Facts code 483 rw_30 := Jvm.Free.DS.facts 483 rw_30 (by decide +kernel) (by decide +kernel)
set_option maxRecDepth 100000 in
theorem cl_30 : okK 301 cod_301 b_301_30 = true := okK_of (t := rw_30) fb_30 (by decide +kernel)
set_option maxRecDepth 100000 in
theorem ck_301 : okM 301 cod_301 = true := Bool.and_eq_true_iff.mpr ⟨List.all_eq_true.mpr (List.forall_mem_cons.mpr ⟨cl_0, List.forall_mem_cons.mpr ⟨cl_1, List.forall_mem_cons.mpr ⟨cl_2, List.forall_mem_cons.mpr ⟨cl_3, List.forall_mem_cons.mpr ⟨cl_4, List.forall_mem_cons.mpr ⟨cl_5, List.forall_mem_cons.mpr ⟨cl_6, List.forall_mem_cons.mpr ⟨cl_7, List.forall_mem_cons.mpr ⟨cl_8, List.forall_mem_cons.mpr ⟨cl_9, List.forall_mem_cons.mpr ⟨cl_10, List.forall_mem_cons.mpr ⟨cl_11, List.forall_mem_cons.mpr ⟨cl_12, List.forall_mem_cons.mpr ⟨cl_13, List.forall_mem_cons.mpr ⟨cl_14, List.forall_mem_cons.mpr ⟨cl_15, List.forall_mem_cons.mpr ⟨cl_16, List.forall_mem_cons.mpr ⟨cl_17, List.forall_mem_cons.mpr ⟨cl_18, List.forall_mem_cons.mpr ⟨cl_19, List.forall_mem_cons.mpr ⟨cl_20, List.forall_mem_cons.mpr ⟨cl_21, List.forall_mem_cons.mpr ⟨cl_22, List.forall_mem_cons.mpr ⟨cl_23, List.forall_mem_cons.mpr ⟨cl_24, List.forall_mem_cons.mpr ⟨cl_25, List.forall_mem_cons.mpr ⟨cl_26, List.forall_mem_cons.mpr ⟨cl_27, List.forall_mem_cons.mpr ⟨cl_28, List.forall_mem_cons.mpr ⟨cl_29, List.forall_mem_cons.mpr ⟨cl_30, fun _ h => absurd h List.not_mem_nil⟩⟩⟩⟩⟩⟩⟩⟩⟩⟩⟩⟩⟩⟩⟩⟩⟩⟩⟩⟩⟩⟩⟩⟩⟩⟩⟩⟩⟩⟩⟩), rfl⟩
