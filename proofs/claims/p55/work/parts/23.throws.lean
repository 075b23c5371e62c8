/-! WHAT IS THROWN AND CAUGHT: the tables' part -/
def exS : List String := ["java/lang/RuntimeException", "java/lang/Exception"]
def memb (w : Cond) : Bool := (List.range 6).any (fun k => (tbS k).any (fun u => decide (u = w)))
theorem memb_in {w : Cond} (h : memb w = true) : w ∈ lw_tbl := by
  unfold memb at h
  obtain ⟨k, -, h2⟩ := List.any_eq_true.mp h
  obtain ⟨u, h3, h4⟩ := List.any_eq_true.mp h2
  have := of_decide_eq_true h4
  subst this
  show u ∈ k2_sels lw_privs ++ (tables_1_1 ++ (tables_1_2 ++ (tables_1_3 ++ (tables_1_4 ++ tables_1_5))))
  simp only [List.mem_append]
  unfold tbS at h3
  split at h3 <;> simp [h3]
def thW (t : Nat × Nat × Nat × Nat × Nat × Nat × String) : List Cond := Cond.classLink (cn t.1) t.2.1 (exN t.2.2.2.2.1) :: Cond.initialized (exN t.2.2.2.2.1) :: vx_atS (cn t.1) t.2.2.2.1 (exN t.2.2.2.2.1) exS
def thOk (t : Nat × Nat × Nat × Nat × Nat × Nat × String) : Bool := (thW t).all (fun w => memb w && tw w && vx_ot w) && Bundle.fit (exN t.2.2.2.2.1) && exS.all Bundle.fit && decide (1 ≤ t.2.2.2.2.1 ∧ t.2.2.2.2.1 ≤ 3 ∧ t.2.2.2.2.2.1 ≠ 0)
set_option maxRecDepth 100000 in
theorem th_ok : ∀ t ∈ thT, thOk t = true := by decide +kernel
def hpT : List (List Nat) := [[], [], [], [], [], [], [], [], [], [], [], [], []]
def hps (z : Nat) : List Nat := hpT.getD (z - 165) []
def csT (e : Nat) : Nat := ([0, 2012, 2096, 3087] : List Nat).getD e 0
theorem cs_ok : ∀ e, 1 ≤ e → e ≤ 3 → wat (csT e) = some (.castable (exN e) (exN e)) := by
  intro e h1 h2
  have : e = 1 ∨ e = 2 ∨ e = 3 := by omega
  rcases this with rfl | rfl | rfl <;> decide +kernel
/-- a call stands ahead of the range's end -/
def cal (t : Nat) (e : En) : Bool := match e.2.1 with
  | .invokevirtual _ => decide (e.1 < t)
  | .invokespecial _ => decide (e.1 < t)
  | .invokestatic _ => decide (e.1 < t)
  | _ => true
/-- what is caught: the handler's first row lays the exception down, its next row is the block's -/
noncomputable def hOk (z : Nat) (bs : List (List En)) : List (Nat × Nat × Nat) → List (Nat × Nat × Nat × Nat) → List Nat → List Nat → Bool
  | [], [], [], _ => true
  | (e, b, k) :: hs, (f, t, h, ct) :: hw, p :: ps, seen => decide (f = 0) && decide (1 ≤ e ∧ e ≤ 3) && decide (ct ≠ 0) && decide (e ∉ seen) && decide (wat p = some (.classLink (cn (mC z)) ct (exN e))) && decide (k < mL z) &&
      ((decide (decode (mB z) h = .ok (.astore k, 2)) && decide (hpc bs b = h + 2)) || (match decode (mB z) h with | .ok (.astore_n n, 1) => decide (n.val = k) && decide (hpc bs b = h + 1) | _ => false)) &&
      bs.all (fun cs => cs.all (cal t)) && hOk z bs hs hw ps (e :: seen)
  | _, _, _, _ => false
def allH : Nat → List (List (List En)) → Prop
  | _, [] => True
  | z, c :: cs => (hnd z = [] ∧ hndW z = [] ∨ hOk z c (hnd z) (hndW z) (hps z) [] = true) ∧ allH (z + 1) cs
theorem allH_app : ∀ (a b : List (List (List En))) (z : Nat), allH z a → allH (z + a.length) b → allH z (a ++ b)
  | [], _, z, _, h => h
  | c :: cs, b, z, h, h2 => ⟨h.1, allH_app cs b (z + 1) h.2 (by rw [List.length_cons] at h2; rw [show z + 1 + cs.length = z + (cs.length + 1) by omega]; exact h2)⟩
theorem allH_at : ∀ (a : List (List (List En))) (z i : Nat), allH z a → (hnd (z + i) = [] ∧ hndW (z + i) = [] ∨ hOk (z + i) (a.getD i []) (hnd (z + i)) (hndW (z + i)) (hps (z + i)) [] = true) ∨ a.length ≤ i
  | [], z, i, _ => Or.inr (Nat.zero_le _)
  | c :: cs, z, 0, h => Or.inl h.1
  | c :: cs, z, i + 1, h => by
    have h2 := allH_at cs (z + 1) i h.2
    rw [show z + 1 + i = z + (i + 1) by omega] at h2
    rcases h2 with h2 | h2
    · exact Or.inl h2
    · exact Or.inr (by rw [List.length_cons]; omega)
theorem ho_0 : hnd 0 = [] ∧ hndW 0 = [] ∨ hOk 0 cod_0 (hnd 0) (hndW 0) (hps 0) [] = true := Or.inl ⟨rfl, rfl⟩
theorem ho_1 : hnd 1 = [] ∧ hndW 1 = [] ∨ hOk 1 cod_1 (hnd 1) (hndW 1) (hps 1) [] = true := Or.inl ⟨rfl, rfl⟩
theorem ho_2 : hnd 2 = [] ∧ hndW 2 = [] ∨ hOk 2 cod_2 (hnd 2) (hndW 2) (hps 2) [] = true := Or.inl ⟨rfl, rfl⟩
theorem ho_3 : hnd 3 = [] ∧ hndW 3 = [] ∨ hOk 3 cod_3 (hnd 3) (hndW 3) (hps 3) [] = true := Or.inl ⟨rfl, rfl⟩
theorem ho_4 : hnd 4 = [] ∧ hndW 4 = [] ∨ hOk 4 cod_4 (hnd 4) (hndW 4) (hps 4) [] = true := Or.inl ⟨rfl, rfl⟩
theorem ho_5 : hnd 5 = [] ∧ hndW 5 = [] ∨ hOk 5 cod_5 (hnd 5) (hndW 5) (hps 5) [] = true := Or.inl ⟨rfl, rfl⟩
theorem ho_6 : hnd 6 = [] ∧ hndW 6 = [] ∨ hOk 6 cod_6 (hnd 6) (hndW 6) (hps 6) [] = true := Or.inl ⟨rfl, rfl⟩
theorem ho_7 : hnd 7 = [] ∧ hndW 7 = [] ∨ hOk 7 cod_7 (hnd 7) (hndW 7) (hps 7) [] = true := Or.inl ⟨rfl, rfl⟩
theorem ho_8 : hnd 8 = [] ∧ hndW 8 = [] ∨ hOk 8 cod_8 (hnd 8) (hndW 8) (hps 8) [] = true := Or.inl ⟨rfl, rfl⟩
theorem ho_9 : hnd 9 = [] ∧ hndW 9 = [] ∨ hOk 9 cod_9 (hnd 9) (hndW 9) (hps 9) [] = true := Or.inl ⟨rfl, rfl⟩
theorem ho_10 : hnd 10 = [] ∧ hndW 10 = [] ∨ hOk 10 [] (hnd 10) (hndW 10) (hps 10) [] = true := Or.inl ⟨rfl, rfl⟩
theorem ho_11 : hnd 11 = [] ∧ hndW 11 = [] ∨ hOk 11 [] (hnd 11) (hndW 11) (hps 11) [] = true := Or.inl ⟨rfl, rfl⟩
theorem ho_12 : hnd 12 = [] ∧ hndW 12 = [] ∨ hOk 12 cod_12 (hnd 12) (hndW 12) (hps 12) [] = true := Or.inl ⟨rfl, rfl⟩
theorem ho_13 : hnd 13 = [] ∧ hndW 13 = [] ∨ hOk 13 cod_13 (hnd 13) (hndW 13) (hps 13) [] = true := Or.inl ⟨rfl, rfl⟩
theorem ho_14 : hnd 14 = [] ∧ hndW 14 = [] ∨ hOk 14 cod_14 (hnd 14) (hndW 14) (hps 14) [] = true := Or.inl ⟨rfl, rfl⟩
theorem ho_15 : hnd 15 = [] ∧ hndW 15 = [] ∨ hOk 15 cod_15 (hnd 15) (hndW 15) (hps 15) [] = true := Or.inl ⟨rfl, rfl⟩
theorem ho_16 : hnd 16 = [] ∧ hndW 16 = [] ∨ hOk 16 cod_16 (hnd 16) (hndW 16) (hps 16) [] = true := Or.inl ⟨rfl, rfl⟩
theorem ho_17 : hnd 17 = [] ∧ hndW 17 = [] ∨ hOk 17 [] (hnd 17) (hndW 17) (hps 17) [] = true := Or.inl ⟨rfl, rfl⟩
theorem ho_18 : hnd 18 = [] ∧ hndW 18 = [] ∨ hOk 18 cod_18 (hnd 18) (hndW 18) (hps 18) [] = true := Or.inl ⟨rfl, rfl⟩
theorem ho_19 : hnd 19 = [] ∧ hndW 19 = [] ∨ hOk 19 cod_19 (hnd 19) (hndW 19) (hps 19) [] = true := Or.inl ⟨rfl, rfl⟩
theorem ho_20 : hnd 20 = [] ∧ hndW 20 = [] ∨ hOk 20 cod_20 (hnd 20) (hndW 20) (hps 20) [] = true := Or.inl ⟨rfl, rfl⟩
theorem ho_21 : hnd 21 = [] ∧ hndW 21 = [] ∨ hOk 21 cod_21 (hnd 21) (hndW 21) (hps 21) [] = true := Or.inl ⟨rfl, rfl⟩
theorem ho_22 : hnd 22 = [] ∧ hndW 22 = [] ∨ hOk 22 cod_22 (hnd 22) (hndW 22) (hps 22) [] = true := Or.inl ⟨rfl, rfl⟩
theorem ho_23 : hnd 23 = [] ∧ hndW 23 = [] ∨ hOk 23 cod_23 (hnd 23) (hndW 23) (hps 23) [] = true := Or.inl ⟨rfl, rfl⟩
theorem ho_24 : hnd 24 = [] ∧ hndW 24 = [] ∨ hOk 24 cod_24 (hnd 24) (hndW 24) (hps 24) [] = true := Or.inl ⟨rfl, rfl⟩
theorem ho_25 : hnd 25 = [] ∧ hndW 25 = [] ∨ hOk 25 cod_25 (hnd 25) (hndW 25) (hps 25) [] = true := Or.inl ⟨rfl, rfl⟩
theorem ho_26 : hnd 26 = [] ∧ hndW 26 = [] ∨ hOk 26 cod_26 (hnd 26) (hndW 26) (hps 26) [] = true := Or.inl ⟨rfl, rfl⟩
theorem ho_27 : hnd 27 = [] ∧ hndW 27 = [] ∨ hOk 27 cod_27 (hnd 27) (hndW 27) (hps 27) [] = true := Or.inl ⟨rfl, rfl⟩
theorem ho_28 : hnd 28 = [] ∧ hndW 28 = [] ∨ hOk 28 cod_28 (hnd 28) (hndW 28) (hps 28) [] = true := Or.inl ⟨rfl, rfl⟩
theorem ho_29 : hnd 29 = [] ∧ hndW 29 = [] ∨ hOk 29 cod_29 (hnd 29) (hndW 29) (hps 29) [] = true := Or.inl ⟨rfl, rfl⟩
theorem ho_30 : hnd 30 = [] ∧ hndW 30 = [] ∨ hOk 30 cod_30 (hnd 30) (hndW 30) (hps 30) [] = true := Or.inl ⟨rfl, rfl⟩
theorem ho_31 : hnd 31 = [] ∧ hndW 31 = [] ∨ hOk 31 cod_31 (hnd 31) (hndW 31) (hps 31) [] = true := Or.inl ⟨rfl, rfl⟩
theorem ho_32 : hnd 32 = [] ∧ hndW 32 = [] ∨ hOk 32 cod_32 (hnd 32) (hndW 32) (hps 32) [] = true := Or.inl ⟨rfl, rfl⟩
theorem ho_33 : hnd 33 = [] ∧ hndW 33 = [] ∨ hOk 33 cod_33 (hnd 33) (hndW 33) (hps 33) [] = true := Or.inl ⟨rfl, rfl⟩
theorem ho_34 : hnd 34 = [] ∧ hndW 34 = [] ∨ hOk 34 cod_34 (hnd 34) (hndW 34) (hps 34) [] = true := Or.inl ⟨rfl, rfl⟩
theorem ho_35 : hnd 35 = [] ∧ hndW 35 = [] ∨ hOk 35 cod_35 (hnd 35) (hndW 35) (hps 35) [] = true := Or.inl ⟨rfl, rfl⟩
theorem ho_36 : hnd 36 = [] ∧ hndW 36 = [] ∨ hOk 36 cod_36 (hnd 36) (hndW 36) (hps 36) [] = true := Or.inl ⟨rfl, rfl⟩
theorem ho_37 : hnd 37 = [] ∧ hndW 37 = [] ∨ hOk 37 cod_37 (hnd 37) (hndW 37) (hps 37) [] = true := Or.inl ⟨rfl, rfl⟩
theorem ho_38 : hnd 38 = [] ∧ hndW 38 = [] ∨ hOk 38 cod_38 (hnd 38) (hndW 38) (hps 38) [] = true := Or.inl ⟨rfl, rfl⟩
theorem ho_39 : hnd 39 = [] ∧ hndW 39 = [] ∨ hOk 39 cod_39 (hnd 39) (hndW 39) (hps 39) [] = true := Or.inl ⟨rfl, rfl⟩
theorem ho_40 : hnd 40 = [] ∧ hndW 40 = [] ∨ hOk 40 cod_40 (hnd 40) (hndW 40) (hps 40) [] = true := Or.inl ⟨rfl, rfl⟩
theorem ho_41 : hnd 41 = [] ∧ hndW 41 = [] ∨ hOk 41 cod_41 (hnd 41) (hndW 41) (hps 41) [] = true := Or.inl ⟨rfl, rfl⟩
theorem ho_42 : hnd 42 = [] ∧ hndW 42 = [] ∨ hOk 42 cod_42 (hnd 42) (hndW 42) (hps 42) [] = true := Or.inl ⟨rfl, rfl⟩
theorem ho_43 : hnd 43 = [] ∧ hndW 43 = [] ∨ hOk 43 cod_43 (hnd 43) (hndW 43) (hps 43) [] = true := Or.inl ⟨rfl, rfl⟩
theorem ho_44 : hnd 44 = [] ∧ hndW 44 = [] ∨ hOk 44 cod_44 (hnd 44) (hndW 44) (hps 44) [] = true := Or.inl ⟨rfl, rfl⟩
theorem ho_45 : hnd 45 = [] ∧ hndW 45 = [] ∨ hOk 45 cod_45 (hnd 45) (hndW 45) (hps 45) [] = true := Or.inl ⟨rfl, rfl⟩
theorem ho_46 : hnd 46 = [] ∧ hndW 46 = [] ∨ hOk 46 cod_46 (hnd 46) (hndW 46) (hps 46) [] = true := Or.inl ⟨rfl, rfl⟩
theorem ho_47 : hnd 47 = [] ∧ hndW 47 = [] ∨ hOk 47 cod_47 (hnd 47) (hndW 47) (hps 47) [] = true := Or.inl ⟨rfl, rfl⟩
theorem ho_48 : hnd 48 = [] ∧ hndW 48 = [] ∨ hOk 48 cod_48 (hnd 48) (hndW 48) (hps 48) [] = true := Or.inl ⟨rfl, rfl⟩
theorem ho_49 : hnd 49 = [] ∧ hndW 49 = [] ∨ hOk 49 cod_49 (hnd 49) (hndW 49) (hps 49) [] = true := Or.inl ⟨rfl, rfl⟩
theorem ho_50 : hnd 50 = [] ∧ hndW 50 = [] ∨ hOk 50 cod_50 (hnd 50) (hndW 50) (hps 50) [] = true := Or.inl ⟨rfl, rfl⟩
theorem ho_51 : hnd 51 = [] ∧ hndW 51 = [] ∨ hOk 51 cod_51 (hnd 51) (hndW 51) (hps 51) [] = true := Or.inl ⟨rfl, rfl⟩
theorem ho_52 : hnd 52 = [] ∧ hndW 52 = [] ∨ hOk 52 cod_52 (hnd 52) (hndW 52) (hps 52) [] = true := Or.inl ⟨rfl, rfl⟩
theorem ho_53 : hnd 53 = [] ∧ hndW 53 = [] ∨ hOk 53 cod_53 (hnd 53) (hndW 53) (hps 53) [] = true := Or.inl ⟨rfl, rfl⟩
theorem ho_54 : hnd 54 = [] ∧ hndW 54 = [] ∨ hOk 54 cod_54 (hnd 54) (hndW 54) (hps 54) [] = true := Or.inl ⟨rfl, rfl⟩
theorem ho_55 : hnd 55 = [] ∧ hndW 55 = [] ∨ hOk 55 cod_55 (hnd 55) (hndW 55) (hps 55) [] = true := Or.inl ⟨rfl, rfl⟩
theorem ho_56 : hnd 56 = [] ∧ hndW 56 = [] ∨ hOk 56 cod_56 (hnd 56) (hndW 56) (hps 56) [] = true := Or.inl ⟨rfl, rfl⟩
theorem ho_57 : hnd 57 = [] ∧ hndW 57 = [] ∨ hOk 57 cod_57 (hnd 57) (hndW 57) (hps 57) [] = true := Or.inl ⟨rfl, rfl⟩
theorem ho_58 : hnd 58 = [] ∧ hndW 58 = [] ∨ hOk 58 cod_58 (hnd 58) (hndW 58) (hps 58) [] = true := Or.inl ⟨rfl, rfl⟩
theorem ho_59 : hnd 59 = [] ∧ hndW 59 = [] ∨ hOk 59 cod_59 (hnd 59) (hndW 59) (hps 59) [] = true := Or.inl ⟨rfl, rfl⟩
theorem ho_60 : hnd 60 = [] ∧ hndW 60 = [] ∨ hOk 60 cod_60 (hnd 60) (hndW 60) (hps 60) [] = true := Or.inl ⟨rfl, rfl⟩
theorem ho_61 : hnd 61 = [] ∧ hndW 61 = [] ∨ hOk 61 cod_61 (hnd 61) (hndW 61) (hps 61) [] = true := Or.inl ⟨rfl, rfl⟩
theorem ho_62 : hnd 62 = [] ∧ hndW 62 = [] ∨ hOk 62 cod_62 (hnd 62) (hndW 62) (hps 62) [] = true := Or.inl ⟨rfl, rfl⟩
theorem ho_63 : hnd 63 = [] ∧ hndW 63 = [] ∨ hOk 63 cod_63 (hnd 63) (hndW 63) (hps 63) [] = true := Or.inl ⟨rfl, rfl⟩
theorem ho_64 : hnd 64 = [] ∧ hndW 64 = [] ∨ hOk 64 cod_64 (hnd 64) (hndW 64) (hps 64) [] = true := Or.inl ⟨rfl, rfl⟩
theorem ho_65 : hnd 65 = [] ∧ hndW 65 = [] ∨ hOk 65 cod_65 (hnd 65) (hndW 65) (hps 65) [] = true := Or.inl ⟨rfl, rfl⟩
theorem ho_66 : hnd 66 = [] ∧ hndW 66 = [] ∨ hOk 66 cod_66 (hnd 66) (hndW 66) (hps 66) [] = true := Or.inl ⟨rfl, rfl⟩
theorem ho_67 : hnd 67 = [] ∧ hndW 67 = [] ∨ hOk 67 cod_67 (hnd 67) (hndW 67) (hps 67) [] = true := Or.inl ⟨rfl, rfl⟩
theorem ho_68 : hnd 68 = [] ∧ hndW 68 = [] ∨ hOk 68 cod_68 (hnd 68) (hndW 68) (hps 68) [] = true := Or.inl ⟨rfl, rfl⟩
theorem ho_69 : hnd 69 = [] ∧ hndW 69 = [] ∨ hOk 69 cod_69 (hnd 69) (hndW 69) (hps 69) [] = true := Or.inl ⟨rfl, rfl⟩
theorem ho_70 : hnd 70 = [] ∧ hndW 70 = [] ∨ hOk 70 cod_70 (hnd 70) (hndW 70) (hps 70) [] = true := Or.inl ⟨rfl, rfl⟩
theorem ho_71 : hnd 71 = [] ∧ hndW 71 = [] ∨ hOk 71 cod_71 (hnd 71) (hndW 71) (hps 71) [] = true := Or.inl ⟨rfl, rfl⟩
theorem ho_72 : hnd 72 = [] ∧ hndW 72 = [] ∨ hOk 72 [] (hnd 72) (hndW 72) (hps 72) [] = true := Or.inl ⟨rfl, rfl⟩
theorem ho_73 : hnd 73 = [] ∧ hndW 73 = [] ∨ hOk 73 cod_73 (hnd 73) (hndW 73) (hps 73) [] = true := Or.inl ⟨rfl, rfl⟩
theorem ho_74 : hnd 74 = [] ∧ hndW 74 = [] ∨ hOk 74 cod_74 (hnd 74) (hndW 74) (hps 74) [] = true := Or.inl ⟨rfl, rfl⟩
theorem ho_75 : hnd 75 = [] ∧ hndW 75 = [] ∨ hOk 75 cod_75 (hnd 75) (hndW 75) (hps 75) [] = true := Or.inl ⟨rfl, rfl⟩
theorem ho_76 : hnd 76 = [] ∧ hndW 76 = [] ∨ hOk 76 cod_76 (hnd 76) (hndW 76) (hps 76) [] = true := Or.inl ⟨rfl, rfl⟩
theorem ho_77 : hnd 77 = [] ∧ hndW 77 = [] ∨ hOk 77 cod_77 (hnd 77) (hndW 77) (hps 77) [] = true := Or.inl ⟨rfl, rfl⟩
theorem ho_78 : hnd 78 = [] ∧ hndW 78 = [] ∨ hOk 78 cod_78 (hnd 78) (hndW 78) (hps 78) [] = true := Or.inl ⟨rfl, rfl⟩
theorem ho_79 : hnd 79 = [] ∧ hndW 79 = [] ∨ hOk 79 cod_79 (hnd 79) (hndW 79) (hps 79) [] = true := Or.inl ⟨rfl, rfl⟩
theorem ho_80 : hnd 80 = [] ∧ hndW 80 = [] ∨ hOk 80 [] (hnd 80) (hndW 80) (hps 80) [] = true := Or.inl ⟨rfl, rfl⟩
theorem ho_81 : hnd 81 = [] ∧ hndW 81 = [] ∨ hOk 81 cod_81 (hnd 81) (hndW 81) (hps 81) [] = true := Or.inl ⟨rfl, rfl⟩
theorem ho_82 : hnd 82 = [] ∧ hndW 82 = [] ∨ hOk 82 cod_82 (hnd 82) (hndW 82) (hps 82) [] = true := Or.inl ⟨rfl, rfl⟩
theorem ho_83 : hnd 83 = [] ∧ hndW 83 = [] ∨ hOk 83 cod_83 (hnd 83) (hndW 83) (hps 83) [] = true := Or.inl ⟨rfl, rfl⟩
theorem ho_84 : hnd 84 = [] ∧ hndW 84 = [] ∨ hOk 84 cod_84 (hnd 84) (hndW 84) (hps 84) [] = true := Or.inl ⟨rfl, rfl⟩
theorem ho_85 : hnd 85 = [] ∧ hndW 85 = [] ∨ hOk 85 cod_85 (hnd 85) (hndW 85) (hps 85) [] = true := Or.inl ⟨rfl, rfl⟩
theorem ho_86 : hnd 86 = [] ∧ hndW 86 = [] ∨ hOk 86 [] (hnd 86) (hndW 86) (hps 86) [] = true := Or.inl ⟨rfl, rfl⟩
theorem ho_87 : hnd 87 = [] ∧ hndW 87 = [] ∨ hOk 87 cod_87 (hnd 87) (hndW 87) (hps 87) [] = true := Or.inl ⟨rfl, rfl⟩
theorem ho_88 : hnd 88 = [] ∧ hndW 88 = [] ∨ hOk 88 cod_88 (hnd 88) (hndW 88) (hps 88) [] = true := Or.inl ⟨rfl, rfl⟩
theorem ho_89 : hnd 89 = [] ∧ hndW 89 = [] ∨ hOk 89 cod_89 (hnd 89) (hndW 89) (hps 89) [] = true := Or.inl ⟨rfl, rfl⟩
theorem ho_90 : hnd 90 = [] ∧ hndW 90 = [] ∨ hOk 90 [] (hnd 90) (hndW 90) (hps 90) [] = true := Or.inl ⟨rfl, rfl⟩
theorem ho_91 : hnd 91 = [] ∧ hndW 91 = [] ∨ hOk 91 cod_91 (hnd 91) (hndW 91) (hps 91) [] = true := Or.inl ⟨rfl, rfl⟩
theorem ho_92 : hnd 92 = [] ∧ hndW 92 = [] ∨ hOk 92 cod_92 (hnd 92) (hndW 92) (hps 92) [] = true := Or.inl ⟨rfl, rfl⟩
theorem ho_93 : hnd 93 = [] ∧ hndW 93 = [] ∨ hOk 93 cod_93 (hnd 93) (hndW 93) (hps 93) [] = true := Or.inl ⟨rfl, rfl⟩
theorem ho_94 : hnd 94 = [] ∧ hndW 94 = [] ∨ hOk 94 cod_94 (hnd 94) (hndW 94) (hps 94) [] = true := Or.inl ⟨rfl, rfl⟩
theorem ho_95 : hnd 95 = [] ∧ hndW 95 = [] ∨ hOk 95 cod_95 (hnd 95) (hndW 95) (hps 95) [] = true := Or.inl ⟨rfl, rfl⟩
theorem ho_96 : hnd 96 = [] ∧ hndW 96 = [] ∨ hOk 96 cod_96 (hnd 96) (hndW 96) (hps 96) [] = true := Or.inl ⟨rfl, rfl⟩
theorem ho_97 : hnd 97 = [] ∧ hndW 97 = [] ∨ hOk 97 cod_97 (hnd 97) (hndW 97) (hps 97) [] = true := Or.inl ⟨rfl, rfl⟩
theorem ho_98 : hnd 98 = [] ∧ hndW 98 = [] ∨ hOk 98 cod_98 (hnd 98) (hndW 98) (hps 98) [] = true := Or.inl ⟨rfl, rfl⟩
theorem ho_99 : hnd 99 = [] ∧ hndW 99 = [] ∨ hOk 99 cod_99 (hnd 99) (hndW 99) (hps 99) [] = true := Or.inl ⟨rfl, rfl⟩
theorem ho_100 : hnd 100 = [] ∧ hndW 100 = [] ∨ hOk 100 cod_100 (hnd 100) (hndW 100) (hps 100) [] = true := Or.inl ⟨rfl, rfl⟩
theorem ho_101 : hnd 101 = [] ∧ hndW 101 = [] ∨ hOk 101 cod_101 (hnd 101) (hndW 101) (hps 101) [] = true := Or.inl ⟨rfl, rfl⟩
theorem ho_102 : hnd 102 = [] ∧ hndW 102 = [] ∨ hOk 102 cod_102 (hnd 102) (hndW 102) (hps 102) [] = true := Or.inl ⟨rfl, rfl⟩
theorem ho_103 : hnd 103 = [] ∧ hndW 103 = [] ∨ hOk 103 cod_103 (hnd 103) (hndW 103) (hps 103) [] = true := Or.inl ⟨rfl, rfl⟩
theorem ho_104 : hnd 104 = [] ∧ hndW 104 = [] ∨ hOk 104 cod_104 (hnd 104) (hndW 104) (hps 104) [] = true := Or.inl ⟨rfl, rfl⟩
theorem ho_105 : hnd 105 = [] ∧ hndW 105 = [] ∨ hOk 105 [] (hnd 105) (hndW 105) (hps 105) [] = true := Or.inl ⟨rfl, rfl⟩
theorem ho_106 : hnd 106 = [] ∧ hndW 106 = [] ∨ hOk 106 [] (hnd 106) (hndW 106) (hps 106) [] = true := Or.inl ⟨rfl, rfl⟩
theorem ho_107 : hnd 107 = [] ∧ hndW 107 = [] ∨ hOk 107 cod_107 (hnd 107) (hndW 107) (hps 107) [] = true := Or.inl ⟨rfl, rfl⟩
theorem ho_108 : hnd 108 = [] ∧ hndW 108 = [] ∨ hOk 108 cod_108 (hnd 108) (hndW 108) (hps 108) [] = true := Or.inl ⟨rfl, rfl⟩
theorem ho_109 : hnd 109 = [] ∧ hndW 109 = [] ∨ hOk 109 [] (hnd 109) (hndW 109) (hps 109) [] = true := Or.inl ⟨rfl, rfl⟩
theorem ho_110 : hnd 110 = [] ∧ hndW 110 = [] ∨ hOk 110 cod_110 (hnd 110) (hndW 110) (hps 110) [] = true := Or.inl ⟨rfl, rfl⟩
theorem ho_111 : hnd 111 = [] ∧ hndW 111 = [] ∨ hOk 111 [] (hnd 111) (hndW 111) (hps 111) [] = true := Or.inl ⟨rfl, rfl⟩
theorem ho_112 : hnd 112 = [] ∧ hndW 112 = [] ∨ hOk 112 cod_112 (hnd 112) (hndW 112) (hps 112) [] = true := Or.inl ⟨rfl, rfl⟩
theorem ho_113 : hnd 113 = [] ∧ hndW 113 = [] ∨ hOk 113 cod_113 (hnd 113) (hndW 113) (hps 113) [] = true := Or.inl ⟨rfl, rfl⟩
theorem ho_114 : hnd 114 = [] ∧ hndW 114 = [] ∨ hOk 114 cod_114 (hnd 114) (hndW 114) (hps 114) [] = true := Or.inl ⟨rfl, rfl⟩
theorem ho_115 : hnd 115 = [] ∧ hndW 115 = [] ∨ hOk 115 cod_115 (hnd 115) (hndW 115) (hps 115) [] = true := Or.inl ⟨rfl, rfl⟩
theorem ho_116 : hnd 116 = [] ∧ hndW 116 = [] ∨ hOk 116 cod_116 (hnd 116) (hndW 116) (hps 116) [] = true := Or.inl ⟨rfl, rfl⟩
theorem ho_117 : hnd 117 = [] ∧ hndW 117 = [] ∨ hOk 117 cod_117 (hnd 117) (hndW 117) (hps 117) [] = true := Or.inl ⟨rfl, rfl⟩
theorem ho_118 : hnd 118 = [] ∧ hndW 118 = [] ∨ hOk 118 cod_118 (hnd 118) (hndW 118) (hps 118) [] = true := Or.inl ⟨rfl, rfl⟩
theorem ho_119 : hnd 119 = [] ∧ hndW 119 = [] ∨ hOk 119 cod_119 (hnd 119) (hndW 119) (hps 119) [] = true := Or.inl ⟨rfl, rfl⟩
theorem ho_120 : hnd 120 = [] ∧ hndW 120 = [] ∨ hOk 120 cod_120 (hnd 120) (hndW 120) (hps 120) [] = true := Or.inl ⟨rfl, rfl⟩
theorem ho_121 : hnd 121 = [] ∧ hndW 121 = [] ∨ hOk 121 cod_121 (hnd 121) (hndW 121) (hps 121) [] = true := Or.inl ⟨rfl, rfl⟩
theorem ho_122 : hnd 122 = [] ∧ hndW 122 = [] ∨ hOk 122 [] (hnd 122) (hndW 122) (hps 122) [] = true := Or.inl ⟨rfl, rfl⟩
theorem ho_123 : hnd 123 = [] ∧ hndW 123 = [] ∨ hOk 123 cod_123 (hnd 123) (hndW 123) (hps 123) [] = true := Or.inl ⟨rfl, rfl⟩
theorem ho_124 : hnd 124 = [] ∧ hndW 124 = [] ∨ hOk 124 cod_124 (hnd 124) (hndW 124) (hps 124) [] = true := Or.inl ⟨rfl, rfl⟩
theorem ho_125 : hnd 125 = [] ∧ hndW 125 = [] ∨ hOk 125 [] (hnd 125) (hndW 125) (hps 125) [] = true := Or.inl ⟨rfl, rfl⟩
theorem ho_126 : hnd 126 = [] ∧ hndW 126 = [] ∨ hOk 126 cod_126 (hnd 126) (hndW 126) (hps 126) [] = true := Or.inl ⟨rfl, rfl⟩
theorem ho_127 : hnd 127 = [] ∧ hndW 127 = [] ∨ hOk 127 cod_127 (hnd 127) (hndW 127) (hps 127) [] = true := Or.inl ⟨rfl, rfl⟩
theorem ho_128 : hnd 128 = [] ∧ hndW 128 = [] ∨ hOk 128 cod_128 (hnd 128) (hndW 128) (hps 128) [] = true := Or.inl ⟨rfl, rfl⟩
theorem ho_129 : hnd 129 = [] ∧ hndW 129 = [] ∨ hOk 129 cod_129 (hnd 129) (hndW 129) (hps 129) [] = true := Or.inl ⟨rfl, rfl⟩
theorem ho_130 : hnd 130 = [] ∧ hndW 130 = [] ∨ hOk 130 [] (hnd 130) (hndW 130) (hps 130) [] = true := Or.inl ⟨rfl, rfl⟩
theorem ho_131 : hnd 131 = [] ∧ hndW 131 = [] ∨ hOk 131 cod_131 (hnd 131) (hndW 131) (hps 131) [] = true := Or.inl ⟨rfl, rfl⟩
theorem ho_132 : hnd 132 = [] ∧ hndW 132 = [] ∨ hOk 132 cod_132 (hnd 132) (hndW 132) (hps 132) [] = true := Or.inl ⟨rfl, rfl⟩
theorem ho_133 : hnd 133 = [] ∧ hndW 133 = [] ∨ hOk 133 cod_133 (hnd 133) (hndW 133) (hps 133) [] = true := Or.inl ⟨rfl, rfl⟩
theorem ho_134 : hnd 134 = [] ∧ hndW 134 = [] ∨ hOk 134 cod_134 (hnd 134) (hndW 134) (hps 134) [] = true := Or.inl ⟨rfl, rfl⟩
theorem ho_135 : hnd 135 = [] ∧ hndW 135 = [] ∨ hOk 135 cod_135 (hnd 135) (hndW 135) (hps 135) [] = true := Or.inl ⟨rfl, rfl⟩
theorem ho_136 : hnd 136 = [] ∧ hndW 136 = [] ∨ hOk 136 cod_136 (hnd 136) (hndW 136) (hps 136) [] = true := Or.inl ⟨rfl, rfl⟩
theorem ho_137 : hnd 137 = [] ∧ hndW 137 = [] ∨ hOk 137 cod_137 (hnd 137) (hndW 137) (hps 137) [] = true := Or.inl ⟨rfl, rfl⟩
theorem ho_138 : hnd 138 = [] ∧ hndW 138 = [] ∨ hOk 138 cod_138 (hnd 138) (hndW 138) (hps 138) [] = true := Or.inl ⟨rfl, rfl⟩
theorem ho_139 : hnd 139 = [] ∧ hndW 139 = [] ∨ hOk 139 cod_139 (hnd 139) (hndW 139) (hps 139) [] = true := Or.inl ⟨rfl, rfl⟩
theorem ho_140 : hnd 140 = [] ∧ hndW 140 = [] ∨ hOk 140 cod_140 (hnd 140) (hndW 140) (hps 140) [] = true := Or.inl ⟨rfl, rfl⟩
theorem ho_141 : hnd 141 = [] ∧ hndW 141 = [] ∨ hOk 141 cod_141 (hnd 141) (hndW 141) (hps 141) [] = true := Or.inl ⟨rfl, rfl⟩
theorem ho_142 : hnd 142 = [] ∧ hndW 142 = [] ∨ hOk 142 cod_142 (hnd 142) (hndW 142) (hps 142) [] = true := Or.inl ⟨rfl, rfl⟩
theorem ho_143 : hnd 143 = [] ∧ hndW 143 = [] ∨ hOk 143 cod_143 (hnd 143) (hndW 143) (hps 143) [] = true := Or.inl ⟨rfl, rfl⟩
theorem ho_144 : hnd 144 = [] ∧ hndW 144 = [] ∨ hOk 144 cod_144 (hnd 144) (hndW 144) (hps 144) [] = true := Or.inl ⟨rfl, rfl⟩
theorem ho_145 : hnd 145 = [] ∧ hndW 145 = [] ∨ hOk 145 cod_145 (hnd 145) (hndW 145) (hps 145) [] = true := Or.inl ⟨rfl, rfl⟩
theorem ho_146 : hnd 146 = [] ∧ hndW 146 = [] ∨ hOk 146 cod_146 (hnd 146) (hndW 146) (hps 146) [] = true := Or.inl ⟨rfl, rfl⟩
theorem ho_147 : hnd 147 = [] ∧ hndW 147 = [] ∨ hOk 147 cod_147 (hnd 147) (hndW 147) (hps 147) [] = true := Or.inl ⟨rfl, rfl⟩
theorem ho_148 : hnd 148 = [] ∧ hndW 148 = [] ∨ hOk 148 cod_148 (hnd 148) (hndW 148) (hps 148) [] = true := Or.inl ⟨rfl, rfl⟩
theorem ho_149 : hnd 149 = [] ∧ hndW 149 = [] ∨ hOk 149 cod_149 (hnd 149) (hndW 149) (hps 149) [] = true := Or.inl ⟨rfl, rfl⟩
theorem ho_150 : hnd 150 = [] ∧ hndW 150 = [] ∨ hOk 150 cod_150 (hnd 150) (hndW 150) (hps 150) [] = true := Or.inl ⟨rfl, rfl⟩
theorem ho_151 : hnd 151 = [] ∧ hndW 151 = [] ∨ hOk 151 cod_151 (hnd 151) (hndW 151) (hps 151) [] = true := Or.inl ⟨rfl, rfl⟩
theorem ho_152 : hnd 152 = [] ∧ hndW 152 = [] ∨ hOk 152 cod_152 (hnd 152) (hndW 152) (hps 152) [] = true := Or.inl ⟨rfl, rfl⟩
theorem ho_153 : hnd 153 = [] ∧ hndW 153 = [] ∨ hOk 153 cod_153 (hnd 153) (hndW 153) (hps 153) [] = true := Or.inl ⟨rfl, rfl⟩
theorem ho_154 : hnd 154 = [] ∧ hndW 154 = [] ∨ hOk 154 cod_154 (hnd 154) (hndW 154) (hps 154) [] = true := Or.inl ⟨rfl, rfl⟩
theorem ho_155 : hnd 155 = [] ∧ hndW 155 = [] ∨ hOk 155 cod_155 (hnd 155) (hndW 155) (hps 155) [] = true := Or.inl ⟨rfl, rfl⟩
theorem ho_156 : hnd 156 = [] ∧ hndW 156 = [] ∨ hOk 156 cod_156 (hnd 156) (hndW 156) (hps 156) [] = true := Or.inl ⟨rfl, rfl⟩
theorem ho_157 : hnd 157 = [] ∧ hndW 157 = [] ∨ hOk 157 cod_157 (hnd 157) (hndW 157) (hps 157) [] = true := Or.inl ⟨rfl, rfl⟩
theorem ho_158 : hnd 158 = [] ∧ hndW 158 = [] ∨ hOk 158 cod_158 (hnd 158) (hndW 158) (hps 158) [] = true := Or.inl ⟨rfl, rfl⟩
theorem ho_159 : hnd 159 = [] ∧ hndW 159 = [] ∨ hOk 159 cod_159 (hnd 159) (hndW 159) (hps 159) [] = true := Or.inl ⟨rfl, rfl⟩
theorem ho_160 : hnd 160 = [] ∧ hndW 160 = [] ∨ hOk 160 cod_160 (hnd 160) (hndW 160) (hps 160) [] = true := Or.inl ⟨rfl, rfl⟩
theorem ho_161 : hnd 161 = [] ∧ hndW 161 = [] ∨ hOk 161 cod_161 (hnd 161) (hndW 161) (hps 161) [] = true := Or.inl ⟨rfl, rfl⟩
theorem ho_162 : hnd 162 = [] ∧ hndW 162 = [] ∨ hOk 162 cod_162 (hnd 162) (hndW 162) (hps 162) [] = true := Or.inl ⟨rfl, rfl⟩
theorem ho_163 : hnd 163 = [] ∧ hndW 163 = [] ∨ hOk 163 cod_163 (hnd 163) (hndW 163) (hps 163) [] = true := Or.inl ⟨rfl, rfl⟩
theorem ho_164 : hnd 164 = [] ∧ hndW 164 = [] ∨ hOk 164 cod_164 (hnd 164) (hndW 164) (hps 164) [] = true := Or.inl ⟨rfl, rfl⟩
theorem ho_165 : hnd 165 = [] ∧ hndW 165 = [] ∨ hOk 165 cod_165 (hnd 165) (hndW 165) (hps 165) [] = true := Or.inl ⟨rfl, rfl⟩
theorem ho_166 : hnd 166 = [] ∧ hndW 166 = [] ∨ hOk 166 cod_166 (hnd 166) (hndW 166) (hps 166) [] = true := Or.inl ⟨rfl, rfl⟩
theorem ho_167 : hnd 167 = [] ∧ hndW 167 = [] ∨ hOk 167 cod_167 (hnd 167) (hndW 167) (hps 167) [] = true := Or.inl ⟨rfl, rfl⟩
theorem ho_168 : hnd 168 = [] ∧ hndW 168 = [] ∨ hOk 168 cod_168 (hnd 168) (hndW 168) (hps 168) [] = true := Or.inl ⟨rfl, rfl⟩
theorem ho_169 : hnd 169 = [] ∧ hndW 169 = [] ∨ hOk 169 cod_169 (hnd 169) (hndW 169) (hps 169) [] = true := Or.inl ⟨rfl, rfl⟩
theorem ho_170 : hnd 170 = [] ∧ hndW 170 = [] ∨ hOk 170 cod_170 (hnd 170) (hndW 170) (hps 170) [] = true := Or.inl ⟨rfl, rfl⟩
theorem ho_171 : hnd 171 = [] ∧ hndW 171 = [] ∨ hOk 171 cod_171 (hnd 171) (hndW 171) (hps 171) [] = true := Or.inl ⟨rfl, rfl⟩
theorem ho_172 : hnd 172 = [] ∧ hndW 172 = [] ∨ hOk 172 cod_172 (hnd 172) (hndW 172) (hps 172) [] = true := Or.inl ⟨rfl, rfl⟩
theorem ho_173 : hnd 173 = [] ∧ hndW 173 = [] ∨ hOk 173 cod_173 (hnd 173) (hndW 173) (hps 173) [] = true := Or.inl ⟨rfl, rfl⟩
theorem ho_174 : hnd 174 = [] ∧ hndW 174 = [] ∨ hOk 174 cod_174 (hnd 174) (hndW 174) (hps 174) [] = true := Or.inl ⟨rfl, rfl⟩
theorem ho_175 : hnd 175 = [] ∧ hndW 175 = [] ∨ hOk 175 cod_175 (hnd 175) (hndW 175) (hps 175) [] = true := Or.inl ⟨rfl, rfl⟩
theorem ho_176 : hnd 176 = [] ∧ hndW 176 = [] ∨ hOk 176 cod_176 (hnd 176) (hndW 176) (hps 176) [] = true := Or.inl ⟨rfl, rfl⟩
theorem ho_177 : hnd 177 = [] ∧ hndW 177 = [] ∨ hOk 177 [] (hnd 177) (hndW 177) (hps 177) [] = true := Or.inl ⟨rfl, rfl⟩
theorem ho_178 : hnd 178 = [] ∧ hndW 178 = [] ∨ hOk 178 [] (hnd 178) (hndW 178) (hps 178) [] = true := Or.inl ⟨rfl, rfl⟩
theorem ho_179 : hnd 179 = [] ∧ hndW 179 = [] ∨ hOk 179 [] (hnd 179) (hndW 179) (hps 179) [] = true := Or.inl ⟨rfl, rfl⟩
theorem ho_180 : hnd 180 = [] ∧ hndW 180 = [] ∨ hOk 180 [] (hnd 180) (hndW 180) (hps 180) [] = true := Or.inl ⟨rfl, rfl⟩
theorem ho_181 : hnd 181 = [] ∧ hndW 181 = [] ∨ hOk 181 [] (hnd 181) (hndW 181) (hps 181) [] = true := Or.inl ⟨rfl, rfl⟩
theorem ho_182 : hnd 182 = [] ∧ hndW 182 = [] ∨ hOk 182 [] (hnd 182) (hndW 182) (hps 182) [] = true := Or.inl ⟨rfl, rfl⟩
theorem ho_183 : hnd 183 = [] ∧ hndW 183 = [] ∨ hOk 183 [] (hnd 183) (hndW 183) (hps 183) [] = true := Or.inl ⟨rfl, rfl⟩
theorem ho_184 : hnd 184 = [] ∧ hndW 184 = [] ∨ hOk 184 [] (hnd 184) (hndW 184) (hps 184) [] = true := Or.inl ⟨rfl, rfl⟩
theorem ho_185 : hnd 185 = [] ∧ hndW 185 = [] ∨ hOk 185 [] (hnd 185) (hndW 185) (hps 185) [] = true := Or.inl ⟨rfl, rfl⟩
theorem ho_186 : hnd 186 = [] ∧ hndW 186 = [] ∨ hOk 186 [] (hnd 186) (hndW 186) (hps 186) [] = true := Or.inl ⟨rfl, rfl⟩
theorem ho_187 : hnd 187 = [] ∧ hndW 187 = [] ∨ hOk 187 [] (hnd 187) (hndW 187) (hps 187) [] = true := Or.inl ⟨rfl, rfl⟩
theorem ho_188 : hnd 188 = [] ∧ hndW 188 = [] ∨ hOk 188 [] (hnd 188) (hndW 188) (hps 188) [] = true := Or.inl ⟨rfl, rfl⟩
theorem ho_189 : hnd 189 = [] ∧ hndW 189 = [] ∨ hOk 189 [] (hnd 189) (hndW 189) (hps 189) [] = true := Or.inl ⟨rfl, rfl⟩
theorem ho_190 : hnd 190 = [] ∧ hndW 190 = [] ∨ hOk 190 [] (hnd 190) (hndW 190) (hps 190) [] = true := Or.inl ⟨rfl, rfl⟩
theorem ho_191 : hnd 191 = [] ∧ hndW 191 = [] ∨ hOk 191 [] (hnd 191) (hndW 191) (hps 191) [] = true := Or.inl ⟨rfl, rfl⟩
theorem ho_192 : hnd 192 = [] ∧ hndW 192 = [] ∨ hOk 192 [] (hnd 192) (hndW 192) (hps 192) [] = true := Or.inl ⟨rfl, rfl⟩
theorem ho_193 : hnd 193 = [] ∧ hndW 193 = [] ∨ hOk 193 [] (hnd 193) (hndW 193) (hps 193) [] = true := Or.inl ⟨rfl, rfl⟩
theorem ho_194 : hnd 194 = [] ∧ hndW 194 = [] ∨ hOk 194 [] (hnd 194) (hndW 194) (hps 194) [] = true := Or.inl ⟨rfl, rfl⟩
theorem ho_195 : hnd 195 = [] ∧ hndW 195 = [] ∨ hOk 195 [] (hnd 195) (hndW 195) (hps 195) [] = true := Or.inl ⟨rfl, rfl⟩
theorem ho_196 : hnd 196 = [] ∧ hndW 196 = [] ∨ hOk 196 [] (hnd 196) (hndW 196) (hps 196) [] = true := Or.inl ⟨rfl, rfl⟩
theorem ho_197 : hnd 197 = [] ∧ hndW 197 = [] ∨ hOk 197 [] (hnd 197) (hndW 197) (hps 197) [] = true := Or.inl ⟨rfl, rfl⟩
theorem ho_198 : hnd 198 = [] ∧ hndW 198 = [] ∨ hOk 198 [] (hnd 198) (hndW 198) (hps 198) [] = true := Or.inl ⟨rfl, rfl⟩
theorem ho_199 : hnd 199 = [] ∧ hndW 199 = [] ∨ hOk 199 [] (hnd 199) (hndW 199) (hps 199) [] = true := Or.inl ⟨rfl, rfl⟩
theorem ho_200 : hnd 200 = [] ∧ hndW 200 = [] ∨ hOk 200 [] (hnd 200) (hndW 200) (hps 200) [] = true := Or.inl ⟨rfl, rfl⟩
theorem ho_201 : hnd 201 = [] ∧ hndW 201 = [] ∨ hOk 201 [] (hnd 201) (hndW 201) (hps 201) [] = true := Or.inl ⟨rfl, rfl⟩
theorem ho_202 : hnd 202 = [] ∧ hndW 202 = [] ∨ hOk 202 [] (hnd 202) (hndW 202) (hps 202) [] = true := Or.inl ⟨rfl, rfl⟩
theorem ho_203 : hnd 203 = [] ∧ hndW 203 = [] ∨ hOk 203 [] (hnd 203) (hndW 203) (hps 203) [] = true := Or.inl ⟨rfl, rfl⟩
theorem ho_204 : hnd 204 = [] ∧ hndW 204 = [] ∨ hOk 204 [] (hnd 204) (hndW 204) (hps 204) [] = true := Or.inl ⟨rfl, rfl⟩
theorem ho_205 : hnd 205 = [] ∧ hndW 205 = [] ∨ hOk 205 [] (hnd 205) (hndW 205) (hps 205) [] = true := Or.inl ⟨rfl, rfl⟩
theorem ho_206 : hnd 206 = [] ∧ hndW 206 = [] ∨ hOk 206 [] (hnd 206) (hndW 206) (hps 206) [] = true := Or.inl ⟨rfl, rfl⟩
theorem ho_207 : hnd 207 = [] ∧ hndW 207 = [] ∨ hOk 207 [] (hnd 207) (hndW 207) (hps 207) [] = true := Or.inl ⟨rfl, rfl⟩
theorem ho_208 : hnd 208 = [] ∧ hndW 208 = [] ∨ hOk 208 [] (hnd 208) (hndW 208) (hps 208) [] = true := Or.inl ⟨rfl, rfl⟩
theorem ho_209 : hnd 209 = [] ∧ hndW 209 = [] ∨ hOk 209 [] (hnd 209) (hndW 209) (hps 209) [] = true := Or.inl ⟨rfl, rfl⟩
theorem ho_210 : hnd 210 = [] ∧ hndW 210 = [] ∨ hOk 210 [] (hnd 210) (hndW 210) (hps 210) [] = true := Or.inl ⟨rfl, rfl⟩
theorem ho_211 : hnd 211 = [] ∧ hndW 211 = [] ∨ hOk 211 [] (hnd 211) (hndW 211) (hps 211) [] = true := Or.inl ⟨rfl, rfl⟩
theorem ho_212 : hnd 212 = [] ∧ hndW 212 = [] ∨ hOk 212 [] (hnd 212) (hndW 212) (hps 212) [] = true := Or.inl ⟨rfl, rfl⟩
theorem ho_213 : hnd 213 = [] ∧ hndW 213 = [] ∨ hOk 213 [] (hnd 213) (hndW 213) (hps 213) [] = true := Or.inl ⟨rfl, rfl⟩
theorem ho_214 : hnd 214 = [] ∧ hndW 214 = [] ∨ hOk 214 [] (hnd 214) (hndW 214) (hps 214) [] = true := Or.inl ⟨rfl, rfl⟩
theorem ho_215 : hnd 215 = [] ∧ hndW 215 = [] ∨ hOk 215 [] (hnd 215) (hndW 215) (hps 215) [] = true := Or.inl ⟨rfl, rfl⟩
theorem ho_216 : hnd 216 = [] ∧ hndW 216 = [] ∨ hOk 216 [] (hnd 216) (hndW 216) (hps 216) [] = true := Or.inl ⟨rfl, rfl⟩
theorem ho_217 : hnd 217 = [] ∧ hndW 217 = [] ∨ hOk 217 [] (hnd 217) (hndW 217) (hps 217) [] = true := Or.inl ⟨rfl, rfl⟩
theorem ho_218 : hnd 218 = [] ∧ hndW 218 = [] ∨ hOk 218 [] (hnd 218) (hndW 218) (hps 218) [] = true := Or.inl ⟨rfl, rfl⟩
theorem ho_219 : hnd 219 = [] ∧ hndW 219 = [] ∨ hOk 219 [] (hnd 219) (hndW 219) (hps 219) [] = true := Or.inl ⟨rfl, rfl⟩
theorem ho_220 : hnd 220 = [] ∧ hndW 220 = [] ∨ hOk 220 [] (hnd 220) (hndW 220) (hps 220) [] = true := Or.inl ⟨rfl, rfl⟩
theorem ho_221 : hnd 221 = [] ∧ hndW 221 = [] ∨ hOk 221 [] (hnd 221) (hndW 221) (hps 221) [] = true := Or.inl ⟨rfl, rfl⟩
theorem ho_222 : hnd 222 = [] ∧ hndW 222 = [] ∨ hOk 222 [] (hnd 222) (hndW 222) (hps 222) [] = true := Or.inl ⟨rfl, rfl⟩
theorem ho_223 : hnd 223 = [] ∧ hndW 223 = [] ∨ hOk 223 [] (hnd 223) (hndW 223) (hps 223) [] = true := Or.inl ⟨rfl, rfl⟩
theorem ho_224 : hnd 224 = [] ∧ hndW 224 = [] ∨ hOk 224 [] (hnd 224) (hndW 224) (hps 224) [] = true := Or.inl ⟨rfl, rfl⟩
theorem ho_225 : hnd 225 = [] ∧ hndW 225 = [] ∨ hOk 225 [] (hnd 225) (hndW 225) (hps 225) [] = true := Or.inl ⟨rfl, rfl⟩
theorem ho_226 : hnd 226 = [] ∧ hndW 226 = [] ∨ hOk 226 [] (hnd 226) (hndW 226) (hps 226) [] = true := Or.inl ⟨rfl, rfl⟩
theorem ho_227 : hnd 227 = [] ∧ hndW 227 = [] ∨ hOk 227 [] (hnd 227) (hndW 227) (hps 227) [] = true := Or.inl ⟨rfl, rfl⟩
theorem ho_228 : hnd 228 = [] ∧ hndW 228 = [] ∨ hOk 228 [] (hnd 228) (hndW 228) (hps 228) [] = true := Or.inl ⟨rfl, rfl⟩
theorem ho_229 : hnd 229 = [] ∧ hndW 229 = [] ∨ hOk 229 [] (hnd 229) (hndW 229) (hps 229) [] = true := Or.inl ⟨rfl, rfl⟩
theorem ho_230 : hnd 230 = [] ∧ hndW 230 = [] ∨ hOk 230 [] (hnd 230) (hndW 230) (hps 230) [] = true := Or.inl ⟨rfl, rfl⟩
theorem ho_231 : hnd 231 = [] ∧ hndW 231 = [] ∨ hOk 231 [] (hnd 231) (hndW 231) (hps 231) [] = true := Or.inl ⟨rfl, rfl⟩
theorem ho_232 : hnd 232 = [] ∧ hndW 232 = [] ∨ hOk 232 [] (hnd 232) (hndW 232) (hps 232) [] = true := Or.inl ⟨rfl, rfl⟩
theorem ho_233 : hnd 233 = [] ∧ hndW 233 = [] ∨ hOk 233 [] (hnd 233) (hndW 233) (hps 233) [] = true := Or.inl ⟨rfl, rfl⟩
theorem ho_234 : hnd 234 = [] ∧ hndW 234 = [] ∨ hOk 234 [] (hnd 234) (hndW 234) (hps 234) [] = true := Or.inl ⟨rfl, rfl⟩
theorem ho_235 : hnd 235 = [] ∧ hndW 235 = [] ∨ hOk 235 [] (hnd 235) (hndW 235) (hps 235) [] = true := Or.inl ⟨rfl, rfl⟩
theorem ho_236 : hnd 236 = [] ∧ hndW 236 = [] ∨ hOk 236 [] (hnd 236) (hndW 236) (hps 236) [] = true := Or.inl ⟨rfl, rfl⟩
theorem ho_237 : hnd 237 = [] ∧ hndW 237 = [] ∨ hOk 237 [] (hnd 237) (hndW 237) (hps 237) [] = true := Or.inl ⟨rfl, rfl⟩
theorem ho_238 : hnd 238 = [] ∧ hndW 238 = [] ∨ hOk 238 [] (hnd 238) (hndW 238) (hps 238) [] = true := Or.inl ⟨rfl, rfl⟩
theorem ho_239 : hnd 239 = [] ∧ hndW 239 = [] ∨ hOk 239 [] (hnd 239) (hndW 239) (hps 239) [] = true := Or.inl ⟨rfl, rfl⟩
theorem ho_240 : hnd 240 = [] ∧ hndW 240 = [] ∨ hOk 240 [] (hnd 240) (hndW 240) (hps 240) [] = true := Or.inl ⟨rfl, rfl⟩
theorem ho_241 : hnd 241 = [] ∧ hndW 241 = [] ∨ hOk 241 [] (hnd 241) (hndW 241) (hps 241) [] = true := Or.inl ⟨rfl, rfl⟩
theorem ho_242 : hnd 242 = [] ∧ hndW 242 = [] ∨ hOk 242 [] (hnd 242) (hndW 242) (hps 242) [] = true := Or.inl ⟨rfl, rfl⟩
theorem ho_243 : hnd 243 = [] ∧ hndW 243 = [] ∨ hOk 243 [] (hnd 243) (hndW 243) (hps 243) [] = true := Or.inl ⟨rfl, rfl⟩
theorem ho_244 : hnd 244 = [] ∧ hndW 244 = [] ∨ hOk 244 [] (hnd 244) (hndW 244) (hps 244) [] = true := Or.inl ⟨rfl, rfl⟩
theorem ho_245 : hnd 245 = [] ∧ hndW 245 = [] ∨ hOk 245 [] (hnd 245) (hndW 245) (hps 245) [] = true := Or.inl ⟨rfl, rfl⟩
theorem ho_246 : hnd 246 = [] ∧ hndW 246 = [] ∨ hOk 246 [] (hnd 246) (hndW 246) (hps 246) [] = true := Or.inl ⟨rfl, rfl⟩
theorem ho_247 : hnd 247 = [] ∧ hndW 247 = [] ∨ hOk 247 [] (hnd 247) (hndW 247) (hps 247) [] = true := Or.inl ⟨rfl, rfl⟩
theorem ho_248 : hnd 248 = [] ∧ hndW 248 = [] ∨ hOk 248 [] (hnd 248) (hndW 248) (hps 248) [] = true := Or.inl ⟨rfl, rfl⟩
theorem ho_249 : hnd 249 = [] ∧ hndW 249 = [] ∨ hOk 249 [] (hnd 249) (hndW 249) (hps 249) [] = true := Or.inl ⟨rfl, rfl⟩
theorem ho_250 : hnd 250 = [] ∧ hndW 250 = [] ∨ hOk 250 [] (hnd 250) (hndW 250) (hps 250) [] = true := Or.inl ⟨rfl, rfl⟩
theorem ho_251 : hnd 251 = [] ∧ hndW 251 = [] ∨ hOk 251 [] (hnd 251) (hndW 251) (hps 251) [] = true := Or.inl ⟨rfl, rfl⟩
theorem ho_252 : hnd 252 = [] ∧ hndW 252 = [] ∨ hOk 252 cod_252 (hnd 252) (hndW 252) (hps 252) [] = true := Or.inl ⟨rfl, rfl⟩
theorem ho_253 : hnd 253 = [] ∧ hndW 253 = [] ∨ hOk 253 [] (hnd 253) (hndW 253) (hps 253) [] = true := Or.inl ⟨rfl, rfl⟩
theorem ho_254 : hnd 254 = [] ∧ hndW 254 = [] ∨ hOk 254 [] (hnd 254) (hndW 254) (hps 254) [] = true := Or.inl ⟨rfl, rfl⟩
theorem ho_255 : hnd 255 = [] ∧ hndW 255 = [] ∨ hOk 255 [] (hnd 255) (hndW 255) (hps 255) [] = true := Or.inl ⟨rfl, rfl⟩
theorem ho_256 : hnd 256 = [] ∧ hndW 256 = [] ∨ hOk 256 [] (hnd 256) (hndW 256) (hps 256) [] = true := Or.inl ⟨rfl, rfl⟩
theorem ho_257 : hnd 257 = [] ∧ hndW 257 = [] ∨ hOk 257 [] (hnd 257) (hndW 257) (hps 257) [] = true := Or.inl ⟨rfl, rfl⟩
theorem ho_258 : hnd 258 = [] ∧ hndW 258 = [] ∨ hOk 258 [] (hnd 258) (hndW 258) (hps 258) [] = true := Or.inl ⟨rfl, rfl⟩
theorem ho_259 : hnd 259 = [] ∧ hndW 259 = [] ∨ hOk 259 [] (hnd 259) (hndW 259) (hps 259) [] = true := Or.inl ⟨rfl, rfl⟩
theorem ho_260 : hnd 260 = [] ∧ hndW 260 = [] ∨ hOk 260 [] (hnd 260) (hndW 260) (hps 260) [] = true := Or.inl ⟨rfl, rfl⟩
theorem ho_261 : hnd 261 = [] ∧ hndW 261 = [] ∨ hOk 261 [] (hnd 261) (hndW 261) (hps 261) [] = true := Or.inl ⟨rfl, rfl⟩
theorem ho_262 : hnd 262 = [] ∧ hndW 262 = [] ∨ hOk 262 [] (hnd 262) (hndW 262) (hps 262) [] = true := Or.inl ⟨rfl, rfl⟩
theorem ho_263 : hnd 263 = [] ∧ hndW 263 = [] ∨ hOk 263 [] (hnd 263) (hndW 263) (hps 263) [] = true := Or.inl ⟨rfl, rfl⟩
theorem ho_264 : hnd 264 = [] ∧ hndW 264 = [] ∨ hOk 264 [] (hnd 264) (hndW 264) (hps 264) [] = true := Or.inl ⟨rfl, rfl⟩
theorem ho_265 : hnd 265 = [] ∧ hndW 265 = [] ∨ hOk 265 [] (hnd 265) (hndW 265) (hps 265) [] = true := Or.inl ⟨rfl, rfl⟩
theorem ho_266 : hnd 266 = [] ∧ hndW 266 = [] ∨ hOk 266 [] (hnd 266) (hndW 266) (hps 266) [] = true := Or.inl ⟨rfl, rfl⟩
theorem ho_267 : hnd 267 = [] ∧ hndW 267 = [] ∨ hOk 267 [] (hnd 267) (hndW 267) (hps 267) [] = true := Or.inl ⟨rfl, rfl⟩
theorem ho_268 : hnd 268 = [] ∧ hndW 268 = [] ∨ hOk 268 [] (hnd 268) (hndW 268) (hps 268) [] = true := Or.inl ⟨rfl, rfl⟩
theorem ho_269 : hnd 269 = [] ∧ hndW 269 = [] ∨ hOk 269 [] (hnd 269) (hndW 269) (hps 269) [] = true := Or.inl ⟨rfl, rfl⟩
theorem ho_270 : hnd 270 = [] ∧ hndW 270 = [] ∨ hOk 270 [] (hnd 270) (hndW 270) (hps 270) [] = true := Or.inl ⟨rfl, rfl⟩
theorem ho_271 : hnd 271 = [] ∧ hndW 271 = [] ∨ hOk 271 [] (hnd 271) (hndW 271) (hps 271) [] = true := Or.inl ⟨rfl, rfl⟩
theorem ho_272 : hnd 272 = [] ∧ hndW 272 = [] ∨ hOk 272 [] (hnd 272) (hndW 272) (hps 272) [] = true := Or.inl ⟨rfl, rfl⟩
theorem ho_273 : hnd 273 = [] ∧ hndW 273 = [] ∨ hOk 273 [] (hnd 273) (hndW 273) (hps 273) [] = true := Or.inl ⟨rfl, rfl⟩
theorem ho_274 : hnd 274 = [] ∧ hndW 274 = [] ∨ hOk 274 [] (hnd 274) (hndW 274) (hps 274) [] = true := Or.inl ⟨rfl, rfl⟩
theorem ho_275 : hnd 275 = [] ∧ hndW 275 = [] ∨ hOk 275 [] (hnd 275) (hndW 275) (hps 275) [] = true := Or.inl ⟨rfl, rfl⟩
theorem ho_276 : hnd 276 = [] ∧ hndW 276 = [] ∨ hOk 276 [] (hnd 276) (hndW 276) (hps 276) [] = true := Or.inl ⟨rfl, rfl⟩
theorem ho_277 : hnd 277 = [] ∧ hndW 277 = [] ∨ hOk 277 [] (hnd 277) (hndW 277) (hps 277) [] = true := Or.inl ⟨rfl, rfl⟩
theorem ho_278 : hnd 278 = [] ∧ hndW 278 = [] ∨ hOk 278 [] (hnd 278) (hndW 278) (hps 278) [] = true := Or.inl ⟨rfl, rfl⟩
theorem ho_279 : hnd 279 = [] ∧ hndW 279 = [] ∨ hOk 279 [] (hnd 279) (hndW 279) (hps 279) [] = true := Or.inl ⟨rfl, rfl⟩
theorem ho_280 : hnd 280 = [] ∧ hndW 280 = [] ∨ hOk 280 [] (hnd 280) (hndW 280) (hps 280) [] = true := Or.inl ⟨rfl, rfl⟩
theorem ho_281 : hnd 281 = [] ∧ hndW 281 = [] ∨ hOk 281 [] (hnd 281) (hndW 281) (hps 281) [] = true := Or.inl ⟨rfl, rfl⟩
theorem ho_282 : hnd 282 = [] ∧ hndW 282 = [] ∨ hOk 282 [] (hnd 282) (hndW 282) (hps 282) [] = true := Or.inl ⟨rfl, rfl⟩
theorem ho_283 : hnd 283 = [] ∧ hndW 283 = [] ∨ hOk 283 [] (hnd 283) (hndW 283) (hps 283) [] = true := Or.inl ⟨rfl, rfl⟩
theorem ho_284 : hnd 284 = [] ∧ hndW 284 = [] ∨ hOk 284 [] (hnd 284) (hndW 284) (hps 284) [] = true := Or.inl ⟨rfl, rfl⟩
theorem ho_285 : hnd 285 = [] ∧ hndW 285 = [] ∨ hOk 285 [] (hnd 285) (hndW 285) (hps 285) [] = true := Or.inl ⟨rfl, rfl⟩
theorem ho_286 : hnd 286 = [] ∧ hndW 286 = [] ∨ hOk 286 [] (hnd 286) (hndW 286) (hps 286) [] = true := Or.inl ⟨rfl, rfl⟩
theorem ho_287 : hnd 287 = [] ∧ hndW 287 = [] ∨ hOk 287 [] (hnd 287) (hndW 287) (hps 287) [] = true := Or.inl ⟨rfl, rfl⟩
theorem ho_288 : hnd 288 = [] ∧ hndW 288 = [] ∨ hOk 288 [] (hnd 288) (hndW 288) (hps 288) [] = true := Or.inl ⟨rfl, rfl⟩
theorem ho_289 : hnd 289 = [] ∧ hndW 289 = [] ∨ hOk 289 [] (hnd 289) (hndW 289) (hps 289) [] = true := Or.inl ⟨rfl, rfl⟩
theorem ho_290 : hnd 290 = [] ∧ hndW 290 = [] ∨ hOk 290 [] (hnd 290) (hndW 290) (hps 290) [] = true := Or.inl ⟨rfl, rfl⟩
theorem ho_291 : hnd 291 = [] ∧ hndW 291 = [] ∨ hOk 291 [] (hnd 291) (hndW 291) (hps 291) [] = true := Or.inl ⟨rfl, rfl⟩
theorem ho_292 : hnd 292 = [] ∧ hndW 292 = [] ∨ hOk 292 [] (hnd 292) (hndW 292) (hps 292) [] = true := Or.inl ⟨rfl, rfl⟩
theorem ho_293 : hnd 293 = [] ∧ hndW 293 = [] ∨ hOk 293 [] (hnd 293) (hndW 293) (hps 293) [] = true := Or.inl ⟨rfl, rfl⟩
theorem ho_294 : hnd 294 = [] ∧ hndW 294 = [] ∨ hOk 294 [] (hnd 294) (hndW 294) (hps 294) [] = true := Or.inl ⟨rfl, rfl⟩
theorem ho_295 : hnd 295 = [] ∧ hndW 295 = [] ∨ hOk 295 [] (hnd 295) (hndW 295) (hps 295) [] = true := Or.inl ⟨rfl, rfl⟩
theorem ho_296 : hnd 296 = [] ∧ hndW 296 = [] ∨ hOk 296 [] (hnd 296) (hndW 296) (hps 296) [] = true := Or.inl ⟨rfl, rfl⟩
theorem ho_297 : hnd 297 = [] ∧ hndW 297 = [] ∨ hOk 297 [] (hnd 297) (hndW 297) (hps 297) [] = true := Or.inl ⟨rfl, rfl⟩
theorem ho_298 : hnd 298 = [] ∧ hndW 298 = [] ∨ hOk 298 [] (hnd 298) (hndW 298) (hps 298) [] = true := Or.inl ⟨rfl, rfl⟩
theorem ho_299 : hnd 299 = [] ∧ hndW 299 = [] ∨ hOk 299 [] (hnd 299) (hndW 299) (hps 299) [] = true := Or.inl ⟨rfl, rfl⟩
theorem ho_300 : hnd 300 = [] ∧ hndW 300 = [] ∨ hOk 300 [] (hnd 300) (hndW 300) (hps 300) [] = true := Or.inl ⟨rfl, rfl⟩
theorem ho_301 : hnd 301 = [] ∧ hndW 301 = [] ∨ hOk 301 cod_301 (hnd 301) (hndW 301) (hps 301) [] = true := Or.inl ⟨rfl, rfl⟩
theorem aH_0 : allH 0 cs_0 := ⟨ho_0, ho_1, ho_2, ho_3, ho_4, ho_5, ho_6, ho_7, ho_8, ho_9, ho_10, ho_11, ho_12, ho_13, ho_14, ho_15, ho_16, ho_17, ho_18, ho_19, ho_20, ho_21, ho_22, ho_23, ho_24, ho_25, ho_26, ho_27, ho_28, ho_29, ho_30, ho_31, ho_32, ho_33, ho_34, ho_35, ho_36, ho_37, ho_38, ho_39, trivial⟩
theorem aH_1 : allH 40 cs_1 := ⟨ho_40, ho_41, ho_42, ho_43, ho_44, ho_45, ho_46, ho_47, ho_48, ho_49, ho_50, ho_51, ho_52, ho_53, ho_54, ho_55, ho_56, ho_57, ho_58, ho_59, ho_60, ho_61, ho_62, ho_63, ho_64, ho_65, ho_66, ho_67, ho_68, ho_69, ho_70, ho_71, ho_72, ho_73, ho_74, ho_75, ho_76, ho_77, ho_78, ho_79, trivial⟩
theorem aH_2 : allH 80 cs_2 := ⟨ho_80, ho_81, ho_82, ho_83, ho_84, ho_85, ho_86, ho_87, ho_88, ho_89, ho_90, ho_91, ho_92, ho_93, ho_94, ho_95, ho_96, ho_97, ho_98, ho_99, ho_100, ho_101, ho_102, ho_103, ho_104, ho_105, ho_106, ho_107, ho_108, ho_109, ho_110, ho_111, ho_112, ho_113, ho_114, ho_115, ho_116, ho_117, ho_118, ho_119, trivial⟩
theorem aH_3 : allH 120 cs_3 := ⟨ho_120, ho_121, ho_122, ho_123, ho_124, ho_125, ho_126, ho_127, ho_128, ho_129, ho_130, ho_131, ho_132, ho_133, ho_134, ho_135, ho_136, ho_137, ho_138, ho_139, ho_140, ho_141, ho_142, ho_143, ho_144, ho_145, ho_146, ho_147, ho_148, ho_149, ho_150, ho_151, ho_152, ho_153, ho_154, ho_155, ho_156, ho_157, ho_158, ho_159, trivial⟩
theorem aH_4 : allH 160 cs_4 := ⟨ho_160, ho_161, ho_162, ho_163, ho_164, ho_165, ho_166, ho_167, ho_168, ho_169, ho_170, ho_171, ho_172, ho_173, ho_174, ho_175, ho_176, ho_177, ho_178, ho_179, ho_180, ho_181, ho_182, ho_183, ho_184, ho_185, ho_186, ho_187, ho_188, ho_189, ho_190, ho_191, ho_192, ho_193, ho_194, ho_195, ho_196, ho_197, ho_198, ho_199, trivial⟩
theorem aH_5 : allH 200 cs_5 := ⟨ho_200, ho_201, ho_202, ho_203, ho_204, ho_205, ho_206, ho_207, ho_208, ho_209, ho_210, ho_211, ho_212, ho_213, ho_214, ho_215, ho_216, ho_217, ho_218, ho_219, ho_220, ho_221, ho_222, ho_223, ho_224, ho_225, ho_226, ho_227, ho_228, ho_229, ho_230, ho_231, ho_232, ho_233, ho_234, ho_235, ho_236, ho_237, ho_238, ho_239, trivial⟩
theorem aH_6 : allH 240 cs_6 := ⟨ho_240, ho_241, ho_242, ho_243, ho_244, ho_245, ho_246, ho_247, ho_248, ho_249, ho_250, ho_251, ho_252, ho_253, ho_254, ho_255, ho_256, ho_257, ho_258, ho_259, ho_260, ho_261, ho_262, ho_263, ho_264, ho_265, ho_266, ho_267, ho_268, ho_269, ho_270, ho_271, ho_272, ho_273, ho_274, ho_275, ho_276, ho_277, ho_278, ho_279, trivial⟩
theorem aH_7 : allH 280 cs_7 := ⟨ho_280, ho_281, ho_282, ho_283, ho_284, ho_285, ho_286, ho_287, ho_288, ho_289, ho_290, ho_291, ho_292, ho_293, ho_294, ho_295, ho_296, ho_297, ho_298, ho_299, ho_300, ho_301, trivial⟩
theorem aH : allH 0 codes := by
  show allH 0 (cs_0 ++ (cs_1 ++ (cs_2 ++ (cs_3 ++ (cs_4 ++ (cs_5 ++ (cs_6 ++ cs_7)))))))
  exact allH_app _ _ _ aH_0 (allH_app _ _ _ aH_1 (allH_app _ _ _ aH_2 (allH_app _ _ _ aH_3 (allH_app _ _ _ aH_4 (allH_app _ _ _ aH_5 (allH_app _ _ _ aH_6 aH_7))))))
theorem mt_len : mtT.length = codes.length := by decide +kernel
theorem ho_ok (z : Nat) : hnd z = [] ∧ hndW z = [] ∨ hOk z (codes.getD z []) (hnd z) (hndW z) (hps z) [] = true := by
  rcases allH_at codes 0 z aH with h | h
  · rw [Nat.zero_add] at h
    exact h
  · left
    rw [← mt_len] at h
    unfold hnd hndW mtN
    rw [List.getD_eq_getElem?_getD, List.getElem?_eq_none h]
    exact ⟨rfl, rfl⟩
