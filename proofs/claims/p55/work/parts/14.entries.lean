/-! every entry is right -/
def allM : Nat → List (List (List En)) → Prop
  | _, [] => True
  | z, c :: cs => okM z c = true ∧ allM (z + 1) cs
theorem allM_app : ∀ (a b : List (List (List En))) (z : Nat), allM z a → allM (z + a.length) b → allM z (a ++ b)
  | [], _, z, _, h => h
  | c :: cs, b, z, h, h2 => ⟨h.1, allM_app cs b (z + 1) h.2 (by rw [List.length_cons] at h2; rw [show z + 1 + cs.length = z + (cs.length + 1) by omega]; exact h2)⟩
theorem allM_at : ∀ (a : List (List (List En))) (z i : Nat), allM z a → okM (z + i) (a.getD i []) = true ∨ a.getD i [] = []
  | [], z, i, _ => Or.inr (by simp)
  | c :: cs, z, 0, h => Or.inl h.1
  | c :: cs, z, i + 1, h => by
    have h2 := allM_at cs (z + 1) i h.2
    rw [show z + 1 + i = z + (i + 1) by omega] at h2
    simpa using h2
theorem aM_0 : allM 0 cs_0 := ⟨ck_0, ck_1, ck_2, ck_3, ck_4, ck_5, ck_6, ck_7, ck_8, ck_9, rfl, rfl, ck_12, ck_13, ck_14, ck_15, ck_16, rfl, ck_18, ck_19, ck_20, ck_21, ck_22, ck_23, ck_24, ck_25, ck_26, ck_27, ck_28, ck_29, ck_30, ck_31, ck_32, ck_33, ck_34, ck_35, ck_36, ck_37, ck_38, ck_39, trivial⟩
theorem aM_1 : allM 40 cs_1 := ⟨ck_40, ck_41, ck_42, ck_43, ck_44, ck_45, ck_46, ck_47, ck_48, ck_49, ck_50, ck_51, ck_52, ck_53, ck_54, ck_55, ck_56, ck_57, ck_58, ck_59, ck_60, ck_61, ck_62, ck_63, ck_64, ck_65, ck_66, ck_67, ck_68, ck_69, ck_70, ck_71, rfl, ck_73, ck_74, ck_75, ck_76, ck_77, ck_78, ck_79, trivial⟩
theorem aM_2 : allM 80 cs_2 := ⟨rfl, ck_81, ck_82, ck_83, ck_84, ck_85, rfl, ck_87, ck_88, ck_89, rfl, ck_91, ck_92, ck_93, ck_94, ck_95, ck_96, ck_97, ck_98, ck_99, ck_100, ck_101, ck_102, ck_103, ck_104, rfl, rfl, ck_107, ck_108, rfl, ck_110, rfl, ck_112, ck_113, ck_114, ck_115, ck_116, ck_117, ck_118, ck_119, trivial⟩
theorem aM_3 : allM 120 cs_3 := ⟨ck_120, ck_121, rfl, ck_123, ck_124, rfl, ck_126, ck_127, ck_128, ck_129, rfl, ck_131, ck_132, ck_133, ck_134, ck_135, ck_136, ck_137, ck_138, ck_139, ck_140, ck_141, ck_142, ck_143, ck_144, ck_145, ck_146, ck_147, ck_148, ck_149, ck_150, ck_151, ck_152, ck_153, ck_154, ck_155, ck_156, ck_157, ck_158, ck_159, trivial⟩
theorem aM_4 : allM 160 cs_4 := ⟨ck_160, ck_161, ck_162, ck_163, ck_164, ck_165, ck_166, ck_167, ck_168, ck_169, ck_170, ck_171, ck_172, ck_173, ck_174, ck_175, ck_176, rfl, rfl, rfl, rfl, rfl, rfl, rfl, rfl, rfl, rfl, rfl, rfl, rfl, rfl, rfl, rfl, rfl, rfl, rfl, rfl, rfl, rfl, rfl, trivial⟩
theorem aM_5 : allM 200 cs_5 := ⟨rfl, rfl, rfl, rfl, rfl, rfl, rfl, rfl, rfl, rfl, rfl, rfl, rfl, rfl, rfl, rfl, rfl, rfl, rfl, rfl, rfl, rfl, rfl, rfl, rfl, rfl, rfl, rfl, rfl, rfl, rfl, rfl, rfl, rfl, rfl, rfl, rfl, rfl, rfl, rfl, trivial⟩
theorem aM_6 : allM 240 cs_6 := ⟨rfl, rfl, rfl, rfl, rfl, rfl, rfl, rfl, rfl, rfl, rfl, rfl, ck_252, rfl, rfl, rfl, rfl, rfl, rfl, rfl, rfl, rfl, rfl, rfl, rfl, rfl, rfl, rfl, rfl, rfl, rfl, rfl, rfl, rfl, rfl, rfl, rfl, rfl, rfl, rfl, trivial⟩
theorem aM_7 : allM 280 cs_7 := ⟨rfl, rfl, rfl, rfl, rfl, rfl, rfl, rfl, rfl, rfl, rfl, rfl, rfl, rfl, rfl, rfl, rfl, rfl, rfl, rfl, rfl, ck_301, trivial⟩
theorem aM : allM 0 codes := by
  show allM 0 (cs_0 ++ (cs_1 ++ (cs_2 ++ (cs_3 ++ (cs_4 ++ (cs_5 ++ (cs_6 ++ cs_7)))))))
  exact allM_app _ _ _ aM_0 (allM_app _ _ _ aM_1 (allM_app _ _ _ aM_2 (allM_app _ _ _ aM_3 (allM_app _ _ _ aM_4 (allM_app _ _ _ aM_5 (allM_app _ _ _ aM_6 aM_7))))))
/-- the entries of a method's code stand right -/
def Fk (z pc : Nat) (cs : List En) : Prop := chn pc cs = true ∧ ∀ e ∈ cs, okE z (codes.getD z []) e = true ∧ ∃ b ∈ codes.getD z [], e ∈ b
theorem fk_blk (z b : Nat) : Fk z (hpc (codes.getD z []) b) (blk z b) := by
  unfold Fk blk hpc
  rcases allM_at codes 0 z aM with h | h
  · rw [Nat.zero_add] at h
    generalize codes.getD z [] = bs at h ⊢
    rw [List.getD_eq_getElem?_getD]
    cases hb : bs[b]? with
    | none => exact ⟨rfl, fun e he => absurd he List.not_mem_nil⟩
    | some cs =>
      have h1 := List.all_eq_true.mp (Bool.and_eq_true_iff.mp h).1 cs (List.mem_of_getElem? hb)
      have h2 := Bool.and_eq_true_iff.mp h1
      exact ⟨h2.1, fun e he => ⟨List.all_eq_true.mp h2.2 e he, cs, List.mem_of_getElem? hb, he⟩⟩
  · rw [h]
    exact ⟨rfl, fun e he => absurd he List.not_mem_nil⟩
theorem fk_0 (z : Nat) : Fk z 0 (blk z 0) := by
  have h := fk_blk z 0
  rcases allM_at codes 0 z aM with h2 | h2
  · rw [Nat.zero_add] at h2
    have h3 := of_decide_eq_true (Bool.and_eq_true_iff.mp h2).2
    rw [h3] at h
    exact h
  · unfold blk
    rw [h2]
    exact ⟨rfl, fun e he => absurd he List.not_mem_nil⟩
