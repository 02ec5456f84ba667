/-! HOURS: all boats that come -/
section LANDS
variable {k : fd_Sk} {h h' g g' : fd_Hp} {fb bb dr b : Nat}
/-- is boat j kept, when those of hour t are taken out -/
def fd_kp (B : Nat → Nat → Int32) (t : Nat) (j : Nat) : Bool := decide (¬ B 0 j = nI t)
theorem fd_kpT {B : Nat → Nat → Int32} {t j : Nat} : fd_kp B t j = true ↔ ¬ B 0 j = nI t := by unfold fd_kp; exact decide_eq_true_iff
/-- what the reference's boats hold at turn i: the kept ones, and those that are still to be looked at -/
def fd_MB (g : fd_Hp) (B : Nat → Nat → Int32) (t i : Nat) : Prop := (∀ a, a < 5 → ∀ j, i ≤ j → j < 12 → g.1 89 (12 * a + j) = B a j) ∧ ∀ a, a < 5 → ∀ m, m < fd_kn (fd_kp B t) i → g.1 89 (12 * a + m) = B a (fd_ks (fd_kp B t) i m)
def fd_CB (h : fd_Hp) (B : Nat → Nat → Int32) (t i : Nat) : Prop := (∀ a, a < 5 → ∀ j, i ≤ j → j < 12 → h.1 (15 + a) j = B a j) ∧ ∀ a, a < 5 → ∀ m, m < fd_kn (fd_kp B t) i → h.1 (15 + a) m = B a (fd_ks (fd_kp B t) i m)
/-- boat i's numbers -/
def fd_Bo (h : fd_Hp) (B : Nat → Nat → Int32) (ns np i : Nat) : Prop := h.1 15 i = B 0 i ∧ (∃ s, s < ns ∧ h.1 16 i = nI s ∧ B 1 i = nI s) ∧ (∃ x, x ≤ 900 ∧ h.1 17 i = nI x ∧ B 2 i = nI x) ∧ (∃ x, x ≤ 900 ∧ h.1 18 i = nI x ∧ B 3 i = nI x) ∧ h.1 19 i = B 4 i ∧ (B 4 i = -1 ∨ ∃ q, q < np ∧ B 4 i = nI q)
theorem fd_ldL (hk : fd_Sok k fb bb dr) {ns np nb t : Nat} {B : Nat → Nat → Int32} : ∀ (m i : Nat) (h g : fd_Hp) (z1 z2 y4 y5 y6 y7 : Option Value), i + m = nb → fd_Fa h g ns np nb t → (∀ j, j < nb → fd_Bo h B ns np j) → fd_MB g B t i → ∃ h' g' v1 v2, fd_E 35 2 [some (.ref (1)), some (.int (nI (i))), z1, z2] [] k h = fd_E 35 155 [some (.ref (1)), some (.int (nI (nb))), v1, v2] [] k h' ∧ fd_E 142 4 [some (.ref (77)), some (.int (nI (t))), some (.int (nI (fd_kn (fd_kp B t) i))), some (.int (nI (i))), y4, y5, y6, y7] [] k g = some (none, (k, fd_w g' 77 18 (nI (fd_kn (fd_kp B t) nb)))) ∧ fd_Fa h' g' ns np nb t ∧ fd_MB g' B t nb ∧ (∀ q, ¬ q = 5 → ¬ q = 6 → ¬ q = 8 → ¬ q = 13 → h'.1 q = h.1 q) ∧ (∀ q, ¬ q = 82 → ¬ q = 85 → ¬ q = 89 → g'.1 q = g.1 q) := by
  intro m
  induction m with
  | zero =>
    intro i h g z1 z2 y4 y5 y6 y7 e F hB M
    obtain rfl : i = nb := by omega
    have F0 := F
    obtain ⟨⟨b1, b2, b3, b4⟩, ⟨f1, f2, f3, f4, f5, f6, f7⟩, _⟩ := F0
    have hc : nI i ≤ nI i := nI_le (by omega) (by omega)
    refine ⟨h, g, z1, z2, ?_, ?_, F, M, fun _ _ _ _ _ => rfl, fun _ _ _ _ => rfl⟩
    · rw [fs_35_2]
      simp (disch := first | exact fd_nl_int | exact fd_nl_ref | exact fd_nl_none | assumption | exact nI_ne0 (by omega) (by omega) | exact fd_nb0 | exact fd_nb1 | exact fd_nbb | omega) only [fs_35_0, fs_35_1, fs_35_3, fs_35_4_p1 hk, fs_35_4_p20 hk, fs_35_7_p14 hk, fs_35_7_p33 hk, fs_35_10, fs_35_13, fs_35_14_p1 hk, fs_35_14_p20 hk, fs_35_17_p14 hk, fs_35_17_p33 hk, fs_35_20, fs_35_21_p16 hk, fs_35_21_p35 hk, fs_35_22, fs_35_23, fs_35_24_p1 hk, fs_35_24_p20 hk, fs_35_27_p14 hk, fs_35_27_p33 hk, fs_35_30, fs_35_31_p19 hk, fs_35_31_p38 hk, fs_35_32, fs_35_33, fs_35_34_p1 hk, fs_35_34_p20 hk, fs_35_37_p14 hk, fs_35_37_p33 hk, fs_35_40, fs_35_41_p15 hk, fs_35_41_p34 hk, fs_35_42, fs_35_43_p1 hk, fs_35_43_p20 hk, fs_35_46, fs_35_49, fs_35_50_p1 hk, fs_35_50_p20 hk, fs_35_53, fs_35_54, fs_35_57, fs_35_58_p1 hk, fs_35_58_p20 hk, fs_35_61, fs_35_62_p5 hk, fs_35_62_p24 hk, fs_35_63, fs_35_64_p1 hk, fs_35_64_p20 hk, fs_35_67_p14 hk, fs_35_67_p33 hk, fs_35_70, fs_35_71_p17 hk, fs_35_71_p36 hk, fs_35_72, fs_35_73, fs_35_76_p5 hk, fs_35_76_p24 hk, fs_35_77, fs_35_78_p1 hk, fs_35_78_p20 hk, fs_35_81, fs_35_82, fs_35_85, fs_35_86_p1 hk, fs_35_86_p20 hk, fs_35_89, fs_35_90_p6 hk, fs_35_90_p25 hk, fs_35_91, fs_35_92_p1 hk, fs_35_92_p20 hk, fs_35_95_p14 hk, fs_35_95_p33 hk, fs_35_98, fs_35_99_p18 hk, fs_35_99_p37 hk, fs_35_100, fs_35_101, fs_35_104_p6 hk, fs_35_104_p25 hk, fs_35_105, fs_35_106, fs_35_107, fs_35_110, fs_35_111, fs_35_112, fs_35_113, fs_35_114_p1 hk, fs_35_114_p20 hk, fs_35_117_p1 hk, fs_35_117_p20 hk, fs_35_120, fs_35_123, fs_35_124_p1 hk, fs_35_124_p20 hk, fs_35_127, fs_35_128, fs_35_130, fs_35_131, fs_35_132, fs_35_133, fs_35_134_p1 hk, fs_35_134_p20 hk, fs_35_137_p13 hk, fs_35_137_p32 hk, fs_35_138, fs_35_139, fs_35_140, fs_35_141_p1 hk, fs_35_141_p20 hk, fs_35_144, fs_35_145_p12 hk, fs_35_145_p31 hk, fs_35_146_p1 hk, fs_35_146_p20 hk, fs_35_149, fs_35_152, fs_35_156_p1 hk, fs_35_156_p20 hk, fs_35_159, fs_35_160_p1 hk, fs_35_160_p20 hk, fs_35_163_p14 hk, fs_35_163_p33 hk, fs_35_166, Option.bind_some, Option.toList_some, Option.toList_none, List.cons_append, List.nil_append, fd_nb0, fd_nb1, fd_nbb, fd_b0, nI_add, pk_mul, ite_not, Classical.not_not, not_false_iff, not_true, and_self, or_true, true_or, ↓reduceIte, if_true, if_false, ite_self, fd_mI, fd_mH, fd_mL, fd_p0, fd_w0, fd_w1, fd_w2, fd_10, fd_00, hc, f6]
    · rw [fs_142_4]
      simp (disch := first | exact fd_nl_int | exact fd_nl_ref | exact fd_nl_none | assumption | exact nI_ne0 (by omega) (by omega) | exact fd_nb0 | exact fd_nb1 | exact fd_nbb | omega) only [fs_142_0, fs_142_1, fs_142_2, fs_142_3, fs_142_5, fs_142_6_p77 hk, fs_142_9, fs_142_12, fs_142_13_p77 hk, fs_142_16, fs_142_17_p89 hk, fs_142_18, fs_142_19, fs_142_22, fs_142_23_p77 hk, fs_142_26, fs_142_28, fs_142_29, fs_142_30_p89 hk, fs_142_31, fs_142_33, fs_142_34, fs_142_36_p77 hk, fs_142_39, fs_142_40_p77 hk, fs_142_43, fs_142_45, fs_142_46, fs_142_47_p89 hk, fs_142_48, fs_142_49, fs_142_51, fs_142_52, fs_142_54_p77 hk, fs_142_57, fs_142_58_p77 hk, fs_142_61, fs_142_63, fs_142_64, fs_142_65_p89 hk, fs_142_66, fs_142_67, fs_142_69, fs_142_70_p77 hk, fs_142_73, fs_142_75, fs_142_76, fs_142_77_p89 hk, fs_142_78, fs_142_80, fs_142_81_p77 hk, fs_142_84, fs_142_86, fs_142_88, fs_142_91, fs_142_94, fs_142_97, fs_142_100, fs_142_102_p82 hk, fs_142_103, fs_142_104_p77 hk, fs_142_107, fs_142_109, fs_142_111, fs_142_112, fs_142_114, fs_142_117, fs_142_120, fs_142_123, fs_142_126, fs_142_128_p82 hk, fs_142_129, fs_142_131, fs_142_132, fs_142_135, fs_142_136_p77 hk, fs_142_139, fs_142_141, fs_142_143, fs_142_144, fs_142_146, fs_142_147_p85 hk, fs_142_148, fs_142_149, fs_142_152, fs_142_153_p77 hk, fs_142_156, fs_142_158, fs_142_160, fs_142_161, fs_142_163, fs_142_164, fs_142_165_p85 hk, fs_142_166, fs_142_167, fs_142_169, fs_142_170_p77 hk, fs_142_173, fs_142_175_p84 hk, fs_142_176_p77 hk, fs_142_179, fs_142_182, fs_142_183, fs_142_185, fs_142_187, fs_142_188, fs_142_191, fs_142_192_p77 hk, fs_142_195, fs_142_197, fs_142_199, fs_142_200, fs_142_201, fs_142_202, fs_142_203_p77 hk, fs_142_206, fs_142_208, fs_142_210, fs_142_211, fs_142_212, fs_142_213_p89 hk, fs_142_214_p89 hk, fs_142_215, fs_142_218, fs_142_221, fs_142_224, fs_142_227, fs_142_230, fs_142_231, fs_142_232_p77 hk, fs_142_235, Option.bind_some, Option.toList_some, Option.toList_none, List.cons_append, List.nil_append, fd_nb0, fd_nb1, fd_nbb, fd_b0, nI_add, pk_mul, ite_not, Classical.not_not, not_false_iff, not_true, and_self, or_true, true_or, ↓reduceIte, if_true, if_false, ite_self, fd_mI, fd_mH, fd_mL, fd_p0, fd_w0, fd_w1, fd_w2, fd_10, fd_00, hc, f7]
  | succ m ih =>
    intro i h g z1 z2 y4 y5 y6 y7 e F hB M
    have F0 := F
    obtain ⟨⟨b1, b2, b3, b4⟩, ⟨f1, f2, f3, f4, f5, f6, f7⟩, _⟩ := F0
    have hi : i < nb := by omega
    have kl := fd_kn_le (P := fd_kp B t) i
    obtain ⟨q1, ⟨s, hs, q2, q2'⟩, ⟨x, hx, q3, q3'⟩, ⟨y, hy, q4, q4'⟩, q5, q6⟩ := hB i hi
    have M0 := M.1 0 (by omega) i (by omega) (by omega)
    have M1 := M.1 1 (by omega) i (by omega) (by omega)
    have M2 := M.1 2 (by omega) i (by omega) (by omega)
    have M3 := M.1 3 (by omega) i (by omega) (by omega)
    have M4 := M.1 4 (by omega) i (by omega) (by omega)
    simp only [Nat.reduceMul, Nat.zero_add] at M0 M1 M2 M3 M4
    by_cases d : B 0 i = nI t
    · have P0 : ¬ fd_kp B t i = true := fun z => (fd_kpT.mp z) d
      obtain ⟨h1, g1, v5, v6, r1, r2, F1, c1, m1⟩ := fd_ld2 (l := fd_kn (fd_kp B t) i) hk F hi (q1.trans d) (M0.trans d) hs q2 (M1.trans q2') hx q3 (M2.trans q3') hy q4 (M3.trans q4') q5 M4 q6 z1 z2 y4 y5 y6 y7
      have hB1 : ∀ j, j < nb → fd_Bo h1 B ns np j := fun j hj => by
        have := hB j hj
        unfold fd_Bo at this ⊢
        simp (disch := omega) only [c1]
        exact this
      have MM : fd_MB g1 B t (i + 1) := by
        refine ⟨fun a ha j j1 j2 => ?_, fun a ha m' hm => ?_⟩
        · rw [m1 89 (by decide) (by decide)]; exact M.1 a ha j (by omega) j2
        · rw [fd_kn0 P0] at hm
          rw [m1 89 (by decide) (by decide), fd_ks0 P0]; exact M.2 a ha m' hm
      obtain ⟨h2, g2, v1, v2, r3, r4, F2, M2, c2, m2⟩ := ih (i + 1) h1 g1 _ _ _ _ _ _ (by omega) F1 hB1 MM
      rw [fd_kn0 P0] at r4
      exact ⟨h2, g2, v1, v2, r1.trans r3, r2.trans r4, F2, M2, fun q a1 a2 a3 a4 => (c2 q a1 a2 a3 a4).trans (c1 q a1 a2 a3 a4), fun q a1 a2 a3 => (m2 q a1 a2 a3).trans (m1 q a1 a2)⟩
    · have P1 : fd_kp B t i = true := fd_kpT.mpr d
      have hc : ¬ nI nb ≤ nI i := nI_ge (by omega) (by omega)
      obtain ⟨w1, w2⟩ := fd_cp_in (l := fd_kn (fd_kp B t) i) (i := i) (by omega) (by omega) 5 0 g
      have r1 : fd_E 35 2 [some (.ref (1)), some (.int (nI (i))), z1, z2] [] k h = fd_E 35 2 [some (.ref (1)), some (.int (nI (i + 1))), some (.int (h.1 16 i)), some (.int (h.1 19 i))] [] k h := by
        have d' : ¬ h.1 15 i = nI t := by rw [q1]; exact d
        rw [fs_35_2]
        simp (disch := first | exact fd_nl_int | exact fd_nl_ref | exact fd_nl_none | assumption | exact nI_ne0 (by omega) (by omega) | exact fd_nb0 | exact fd_nb1 | exact fd_nbb | omega) only [fs_35_0, fs_35_1, fs_35_3, fs_35_4_p1 hk, fs_35_4_p20 hk, fs_35_7_p14 hk, fs_35_7_p33 hk, fs_35_10, fs_35_13, fs_35_14_p1 hk, fs_35_14_p20 hk, fs_35_17_p14 hk, fs_35_17_p33 hk, fs_35_20, fs_35_21_p16 hk, fs_35_21_p35 hk, fs_35_22, fs_35_23, fs_35_24_p1 hk, fs_35_24_p20 hk, fs_35_27_p14 hk, fs_35_27_p33 hk, fs_35_30, fs_35_31_p19 hk, fs_35_31_p38 hk, fs_35_32, fs_35_33, fs_35_34_p1 hk, fs_35_34_p20 hk, fs_35_37_p14 hk, fs_35_37_p33 hk, fs_35_40, fs_35_41_p15 hk, fs_35_41_p34 hk, fs_35_42, fs_35_43_p1 hk, fs_35_43_p20 hk, fs_35_46, fs_35_49, fs_35_50_p1 hk, fs_35_50_p20 hk, fs_35_53, fs_35_54, fs_35_57, fs_35_58_p1 hk, fs_35_58_p20 hk, fs_35_61, fs_35_62_p5 hk, fs_35_62_p24 hk, fs_35_63, fs_35_64_p1 hk, fs_35_64_p20 hk, fs_35_67_p14 hk, fs_35_67_p33 hk, fs_35_70, fs_35_71_p17 hk, fs_35_71_p36 hk, fs_35_72, fs_35_73, fs_35_76_p5 hk, fs_35_76_p24 hk, fs_35_77, fs_35_78_p1 hk, fs_35_78_p20 hk, fs_35_81, fs_35_82, fs_35_85, fs_35_86_p1 hk, fs_35_86_p20 hk, fs_35_89, fs_35_90_p6 hk, fs_35_90_p25 hk, fs_35_91, fs_35_92_p1 hk, fs_35_92_p20 hk, fs_35_95_p14 hk, fs_35_95_p33 hk, fs_35_98, fs_35_99_p18 hk, fs_35_99_p37 hk, fs_35_100, fs_35_101, fs_35_104_p6 hk, fs_35_104_p25 hk, fs_35_105, fs_35_106, fs_35_107, fs_35_110, fs_35_111, fs_35_112, fs_35_113, fs_35_114_p1 hk, fs_35_114_p20 hk, fs_35_117_p1 hk, fs_35_117_p20 hk, fs_35_120, fs_35_123, fs_35_124_p1 hk, fs_35_124_p20 hk, fs_35_127, fs_35_128, fs_35_130, fs_35_131, fs_35_132, fs_35_133, fs_35_134_p1 hk, fs_35_134_p20 hk, fs_35_137_p13 hk, fs_35_137_p32 hk, fs_35_138, fs_35_139, fs_35_140, fs_35_141_p1 hk, fs_35_141_p20 hk, fs_35_144, fs_35_145_p12 hk, fs_35_145_p31 hk, fs_35_146_p1 hk, fs_35_146_p20 hk, fs_35_149, fs_35_152, fs_35_155, fs_35_156_p1 hk, fs_35_156_p20 hk, fs_35_159, fs_35_160_p1 hk, fs_35_160_p20 hk, fs_35_163_p14 hk, fs_35_163_p33 hk, fs_35_166, Option.bind_some, Option.toList_some, Option.toList_none, List.cons_append, List.nil_append, fd_nb0, fd_nb1, fd_nbb, fd_b0, nI_add, pk_mul, ite_not, Classical.not_not, not_false_iff, not_true, and_self, or_true, true_or, ↓reduceIte, if_true, if_false, ite_self, fd_mI, fd_mH, fd_mL, fd_p0, fd_w0, fd_w1, fd_w2, fd_10, fd_00, hc, f6, f1, d']
      have r2 := fm_mLdNo (h := g) (l := fd_kn (fd_kp B t) i) hk kl hi b3 f7 (by rw [M0]; exact d) y4 y5 y6 y7
      have m1 : ∀ q, ¬ q = 89 → (fd_fold (fd_cpB (fd_kn (fd_kp B t) i) i) 5 0 g).1 q = g.1 q := fun q hq => funext fun j => w2 q j (fun z => hq z.1)
      have F1 : fd_Fa h (fd_fold (fd_cpB (fd_kn (fd_kp B t) i) i) 5 0 g) ns np nb t := by
        unfold fd_Fa fd_S1 at F ⊢
        simp only [Nat.reduceAdd] at F ⊢
        simp (disch := omega) only [m1]
        exact F
      have MM : fd_MB (fd_fold (fd_cpB (fd_kn (fd_kp B t) i) i) 5 0 g) B t (i + 1) := by
        refine ⟨fun a ha j j1 j2 => ?_, fun a ha m' hm => ?_⟩
        · rw [w2 89 (12 * a + j) (fun ⟨_, c, _, _, z⟩ => by omega)]
          exact M.1 a ha j (by omega) j2
        · rw [fd_kn1 P1] at hm
          by_cases z : m' = fd_kn (fd_kp B t) i
          · subst z
            rw [w1 a (by omega) (by omega), fd_ksn P1]
            exact M.1 a ha i (by omega) (by omega)
          · rw [w2 89 (12 * a + m') (fun ⟨_, c, _, _, z⟩ => by omega), fd_ks1 (by omega)]
            exact M.2 a ha m' (by omega)
      obtain ⟨h2, g2, v1, v2, r3, r4, F2, M2, c2, m2⟩ := ih (i + 1) h _ (some (.int (h.1 16 i))) (some (.int (h.1 19 i))) (some (.int (nI 5))) y5 y6 y7 (by omega) F1 hB MM
      rw [fd_kn1 P1] at r4
      exact ⟨h2, g2, v1, v2, r1.trans r3, r2.trans r4, F2, M2, c2, fun q a1 a2 a3 => (m2 q a1 a2 a3).trans (m1 q a3)⟩
theorem fm_drop (hk : fd_Sok k fb bb dr) {nb t : Nat} {B : Nat → Nat → Int32} (n12 : nb ≤ 12) : ∀ (m i : Nat) (h : fd_Hp), i + m = nb → h.1 14 0 = nI (fd_kn (fd_kp B t) i) → fd_CB h B t i → ∃ h', fd_E 8 12 [some (.ref (14)), some (.int (nI (t))), some (.int (nI (nb))), some (.int (nI (i)))] [] k h = some (none, (k, h')) ∧ h'.1 14 0 = nI (fd_kn (fd_kp B t) nb) ∧ fd_CB h' B t nb ∧ ∀ q, ¬ (14 ≤ q ∧ q ≤ 19) → h'.1 q = h.1 q := by
  intro m
  induction m with
  | zero =>
    intro i h e e0 C
    obtain rfl : i = nb := by omega
    have hc : nI i ≤ nI i := nI_le (by omega) (by omega)
    refine ⟨h, ?_, e0, C, fun _ _ => rfl⟩
    rw [fs_8_12]
    simp (disch := first | exact fd_nl_int | exact fd_nl_ref | exact fd_nl_none | assumption | exact nI_ne0 (by omega) (by omega) | exact fd_nb0 | exact fd_nb1 | exact fd_nbb | omega) only [fs_8_0, fs_8_1_p14 hk, fs_8_1_p33 hk, fs_8_4, fs_8_5, fs_8_6, fs_8_7_p14 hk, fs_8_7_p33 hk, fs_8_10, fs_8_11, fs_8_13, fs_8_14, fs_8_17, fs_8_18_p14 hk, fs_8_18_p33 hk, fs_8_21, fs_8_22_p15 hk, fs_8_22_p34 hk, fs_8_23, fs_8_24, fs_8_27, fs_8_28, fs_8_29_p14 hk, fs_8_29_p33 hk, fs_8_32, fs_8_33_p15 hk, fs_8_33_p34 hk, fs_8_34, fs_8_35_p14 hk, fs_8_35_p33 hk, fs_8_38, fs_8_39_p16 hk, fs_8_39_p35 hk, fs_8_40, fs_8_41_p14 hk, fs_8_41_p33 hk, fs_8_44, fs_8_45_p17 hk, fs_8_45_p36 hk, fs_8_46, fs_8_47_p14 hk, fs_8_47_p33 hk, fs_8_50, fs_8_51_p18 hk, fs_8_51_p37 hk, fs_8_52, fs_8_53_p14 hk, fs_8_53_p33 hk, fs_8_56, fs_8_57_p19 hk, fs_8_57_p38 hk, fs_8_58_p14 hk, fs_8_58_p33 hk, fs_8_61, fs_8_62, fs_8_65, fs_8_68, Option.bind_some, Option.toList_some, Option.toList_none, List.cons_append, List.nil_append, fd_nb0, fd_nb1, fd_nbb, fd_b0, nI_add, pk_mul, ite_not, Classical.not_not, not_false_iff, not_true, and_self, or_true, true_or, ↓reduceIte, if_true, if_false, ite_self, fd_mI, fd_mH, fd_mL, fd_p0, fd_w0, fd_w1, fd_w2, fd_10, fd_00, hc]
  | succ m ih =>
    intro i h e e0 C
    have kl := fd_kn_le (P := fd_kp B t) i
    have hc : ¬ nI nb ≤ nI i := nI_ge (by omega) (by omega)
    have C0 := C.1 0 (by omega) i (by omega) (by omega)
    simp only [Nat.reduceAdd] at C0
    by_cases d : B 0 i = nI t
    · have P0 : ¬ fd_kp B t i = true := fun z => (fd_kpT.mp z) d
      have d' : h.1 15 i = nI t := C0.trans d
      obtain ⟨h2, r, e2, C2, c2⟩ := ih (i + 1) h (by omega) (by rw [fd_kn0 P0]; exact e0) ⟨fun a ha j j1 j2 => C.1 a ha j (by omega) j2, fun a ha m' hm => by
        rw [fd_kn0 P0] at hm
        rw [fd_ks0 P0]; exact C.2 a ha m' hm⟩
      refine ⟨h2, ?_, e2, C2, c2⟩
      rw [fs_8_12]
      simp (disch := first | exact fd_nl_int | exact fd_nl_ref | exact fd_nl_none | assumption | exact nI_ne0 (by omega) (by omega) | exact fd_nb0 | exact fd_nb1 | exact fd_nbb | omega) only [fs_8_0, fs_8_1_p14 hk, fs_8_1_p33 hk, fs_8_4, fs_8_5, fs_8_6, fs_8_7_p14 hk, fs_8_7_p33 hk, fs_8_10, fs_8_11, fs_8_13, fs_8_14, fs_8_17, fs_8_18_p14 hk, fs_8_18_p33 hk, fs_8_21, fs_8_22_p15 hk, fs_8_22_p34 hk, fs_8_23, fs_8_24, fs_8_27, fs_8_28, fs_8_29_p14 hk, fs_8_29_p33 hk, fs_8_32, fs_8_33_p15 hk, fs_8_33_p34 hk, fs_8_34, fs_8_35_p14 hk, fs_8_35_p33 hk, fs_8_38, fs_8_39_p16 hk, fs_8_39_p35 hk, fs_8_40, fs_8_41_p14 hk, fs_8_41_p33 hk, fs_8_44, fs_8_45_p17 hk, fs_8_45_p36 hk, fs_8_46, fs_8_47_p14 hk, fs_8_47_p33 hk, fs_8_50, fs_8_51_p18 hk, fs_8_51_p37 hk, fs_8_52, fs_8_53_p14 hk, fs_8_53_p33 hk, fs_8_56, fs_8_57_p19 hk, fs_8_57_p38 hk, fs_8_58_p14 hk, fs_8_58_p33 hk, fs_8_61, fs_8_62, fs_8_65, fs_8_68, Option.bind_some, Option.toList_some, Option.toList_none, List.cons_append, List.nil_append, fd_nb0, fd_nb1, fd_nbb, fd_b0, nI_add, pk_mul, ite_not, Classical.not_not, not_false_iff, not_true, and_self, or_true, true_or, ↓reduceIte, if_true, if_false, ite_self, fd_mI, fd_mH, fd_mL, fd_p0, fd_w0, fd_w1, fd_w2, fd_10, fd_00, hc, d', r]
    · have P1 : fd_kp B t i = true := fd_kpT.mpr d
      have d' : ¬ h.1 15 i = nI t := by rw [C0]; exact d
      generalize hl : fd_kn (fd_kp B t) i = l at e0 kl
      have lt : nI l < nI 12 := nI_lt (by omega) (by omega)
      obtain ⟨h2, r, e2, C2, c2⟩ := ih (i + 1) (fd_w (fd_w (fd_w (fd_w (fd_w (fd_w h 15 l (h.1 15 i)) 16 l (h.1 16 i)) 17 l (h.1 17 i)) 18 l (h.1 18 i)) 19 l (h.1 19 i)) 14 0 (nI (l + 1))) (by omega) (by rw [fd_w0, fd_kn1 P1, hl]) (by
        refine ⟨fun a ha j j1 j2 => ?_, fun a ha m' hm => ?_⟩
        · have := C.1 a ha j (by omega) j2
          obtain rfl | rfl | rfl | rfl | rfl : a = 0 ∨ a = 1 ∨ a = 2 ∨ a = 3 ∨ a = 4 := by omega
          all_goals simp only [Nat.reduceAdd] at this ⊢
          all_goals simp (disch := omega) only [fd_w1, fd_w2]
          all_goals exact this
        · rw [fd_kn1 P1, hl] at hm
          by_cases z : m' = l
          · subst z
            have := C.1 a ha i (by omega) (by omega)
            rw [← hl, fd_ksn P1, hl]
            obtain rfl | rfl | rfl | rfl | rfl : a = 0 ∨ a = 1 ∨ a = 2 ∨ a = 3 ∨ a = 4 := by omega
            all_goals simp only [Nat.reduceAdd] at this ⊢
            all_goals simp (disch := omega) only [fd_w0, fd_w1]
            all_goals exact this
          · have := C.2 a ha m' (by omega)
            rw [fd_ks1 (by omega)]
            obtain rfl | rfl | rfl | rfl | rfl : a = 0 ∨ a = 1 ∨ a = 2 ∨ a = 3 ∨ a = 4 := by omega
            all_goals simp only [Nat.reduceAdd] at this ⊢
            all_goals simp (disch := omega) only [fd_w1, fd_w2]
            all_goals exact this)
      refine ⟨h2, ?_, e2, C2, fun q hq => ?_⟩
      · rw [fs_8_12]
        simp (disch := first | exact fd_nl_int | exact fd_nl_ref | exact fd_nl_none | assumption | exact nI_ne0 (by omega) (by omega) | exact fd_nb0 | exact fd_nb1 | exact fd_nbb | omega) only [fs_8_0, fs_8_1_p14 hk, fs_8_1_p33 hk, fs_8_4, fs_8_5, fs_8_6, fs_8_7_p14 hk, fs_8_7_p33 hk, fs_8_10, fs_8_11, fs_8_13, fs_8_14, fs_8_17, fs_8_18_p14 hk, fs_8_18_p33 hk, fs_8_21, fs_8_22_p15 hk, fs_8_22_p34 hk, fs_8_23, fs_8_24, fs_8_27, fs_8_28, fs_8_29_p14 hk, fs_8_29_p33 hk, fs_8_32, fs_8_33_p15 hk, fs_8_33_p34 hk, fs_8_34, fs_8_35_p14 hk, fs_8_35_p33 hk, fs_8_38, fs_8_39_p16 hk, fs_8_39_p35 hk, fs_8_40, fs_8_41_p14 hk, fs_8_41_p33 hk, fs_8_44, fs_8_45_p17 hk, fs_8_45_p36 hk, fs_8_46, fs_8_47_p14 hk, fs_8_47_p33 hk, fs_8_50, fs_8_51_p18 hk, fs_8_51_p37 hk, fs_8_52, fs_8_53_p14 hk, fs_8_53_p33 hk, fs_8_56, fs_8_57_p19 hk, fs_8_57_p38 hk, fs_8_58_p14 hk, fs_8_58_p33 hk, fs_8_61, fs_8_62, fs_8_65, fs_8_68, fs_7_0, fs_7_1_p14 hk, fs_7_1_p33 hk, fs_7_4, fs_7_6, fs_7_9, fs_7_10, fs_7_11, fs_7_12_p14 hk, fs_7_12_p33 hk, fs_7_15, fs_7_16_p14 hk, fs_7_16_p33 hk, fs_7_19, fs_7_20_p15 hk, fs_7_20_p34 hk, fs_7_21, fs_7_22_p14 hk, fs_7_22_p33 hk, fs_7_25, fs_7_26_p14 hk, fs_7_26_p33 hk, fs_7_29, fs_7_30_p16 hk, fs_7_30_p35 hk, fs_7_31, fs_7_32_p14 hk, fs_7_32_p33 hk, fs_7_35, fs_7_36_p14 hk, fs_7_36_p33 hk, fs_7_39, fs_7_40_p17 hk, fs_7_40_p36 hk, fs_7_41, fs_7_42_p14 hk, fs_7_42_p33 hk, fs_7_45, fs_7_46_p14 hk, fs_7_46_p33 hk, fs_7_49, fs_7_51_p18 hk, fs_7_51_p37 hk, fs_7_52, fs_7_53_p14 hk, fs_7_53_p33 hk, fs_7_56, fs_7_57_p14 hk, fs_7_57_p33 hk, fs_7_60, fs_7_62_p19 hk, fs_7_62_p38 hk, fs_7_63, fs_7_64, fs_7_65_p14 hk, fs_7_65_p33 hk, fs_7_68, fs_7_69, fs_7_70_p14 hk, fs_7_70_p33 hk, fs_7_73, fs_7_74, Option.bind_some, Option.toList_some, Option.toList_none, List.cons_append, List.nil_append, fd_nb0, fd_nb1, fd_nbb, fd_b0, nI_add, pk_mul, ite_not, Classical.not_not, not_false_iff, not_true, and_self, or_true, true_or, ↓reduceIte, if_true, if_false, ite_self, fd_mI, fd_mH, fd_mL, fd_p0, fd_w0, fd_w1, fd_w2, fd_10, fd_00, hc, d', e0, lt, r]
      · rw [c2 q hq]
        simp (disch := omega) only [fd_wp]
theorem fd_land2 (hk : fd_Sok k fb bb dr) {ns np nb t : Nat} (F : fd_Fl 1 h g ns np nb t) : ∃ h' g' nb', fd_E 35 0 [some (.ref (1)), none, none, none] [] k h = some (none, (k, h')) ∧ fd_E 142 0 [some (.ref (77)), some (.int (nI (t))), none, none, none, none, none, none] [] k g = some (none, (k, g')) ∧ fd_Fl 1 h' g' ns np nb' t ∧ (∀ q, ¬ (5 ≤ q ∧ q ≤ 19) → h'.1 q = h.1 q) ∧ (∀ q, ¬ q = 82 → ¬ q = 85 → ¬ q = 89 → ¬ q = 77 → g'.1 q = g.1 q) ∧ ∀ j, ¬ j = 18 → g'.1 77 j = g.1 77 j := by
  obtain ⟨Fa, T⟩ := fd_FaB F
  have F0 := Fa
  obtain ⟨⟨b1, b2, b3, b4⟩, ⟨f1, f2, f3, f4, f5, f6, f7⟩, _⟩ := F0
  obtain ⟨B, hB⟩ : ∃ B : Nat → Nat → Int32, ∀ a j, B a j = g.1 89 (12 * a + j) := ⟨fun a j => g.1 89 (12 * a + j), fun _ _ => rfl⟩
  have hBo : ∀ j, j < nb → fd_Bo h B ns np j := fun j hj => by
    have q := T j hj
    simp only [fd_B1, Nat.reduceAdd] at q
    unfold fd_Bo
    rw [hB 0 j, hB 1 j, hB 2 j, hB 3 j, hB 4 j]
    simp only [Nat.reduceMul, Nat.zero_add]
    obtain ⟨a1, ⟨s', _, _, a2, a2'⟩, ⟨s, hs, a3⟩, ⟨x, _, x1, x2, x3⟩, ⟨y, _, y1, y2, y3⟩, a6, a7⟩ := q
    refine ⟨a1, ⟨s, hs, a3, a2'.trans (a2.symm.trans a3)⟩, ⟨x, x1, x2, x3⟩, ⟨y, y1, y2, y3⟩, a6, ?_⟩
    rw [← a6]; exact a7
  have MB : fd_MB g B t 0 := ⟨fun a ha j _ _ => (hB a j).symm, fun a ha m hm => absurd hm (Nat.not_lt_zero _)⟩
  obtain ⟨h1, g1, v1, v2, r1, r2, F1, M1, c1, m1⟩ := fd_ldL hk nb 0 h g none none none none none none (by omega) Fa hBo MB
  have F2 := F1
  obtain ⟨_, ⟨e1, e2, e3, e4, e5, e6, e7⟩, _⟩ := F2
  have hBo1 : ∀ j, j < nb → fd_Bo h1 B ns np j := fun j hj => by
    have := hBo j hj
    unfold fd_Bo at this ⊢
    simp (disch := omega) only [c1]
    exact this
  obtain ⟨C, hC⟩ : ∃ C : Nat → Nat → Int32, ∀ a j, C a j = h1.1 (15 + a) j := ⟨fun a j => h1.1 (15 + a) j, fun _ _ => rfl⟩
  have CB : fd_CB (fd_w h1 14 0 (nI 0)) C t 0 := ⟨fun a ha j _ _ => by rw [hC, fd_w1 (by omega)], fun a ha m hm => absurd hm (Nat.not_lt_zero _)⟩
  obtain ⟨h2, r3, e8, C2, c2⟩ := fm_drop hk b3 nb 0 (fd_w h1 14 0 (nI 0)) (by omega) fd_w0 CB
  have eqP : ∀ i, i ≤ nb → fd_kn (fd_kp C t) i = fd_kn (fd_kp B t) i ∧ ∀ m, fd_ks (fd_kp C t) i m = fd_ks (fd_kp B t) i m := by
    intro i
    induction i with
    | zero => exact fun _ => ⟨rfl, fun _ => rfl⟩
    | succ i ih =>
      intro hi
      obtain ⟨i1, i2⟩ := ih (by omega)
      have hP : fd_kp C t i = fd_kp B t i := by
        unfold fd_kp
        have := (hBo1 i (by omega)).1
        rw [hC 0 i, ← this]
      unfold fd_kn fd_ks
      exact ⟨by rw [hP, i1], fun m => by rw [hP, i1, i2]⟩
  obtain ⟨n, hn⟩ : ∃ n, n = fd_kn (fd_kp B t) nb := ⟨_, rfl⟩
  have hn' : fd_kn (fd_kp C t) nb = n := by rw [(eqP nb (Nat.le_refl _)).1, hn]
  have nle : n ≤ nb := by rw [hn]; exact fd_kn_le nb
  rw [hn'] at e8
  rw [← hn] at r2
  refine ⟨h2, fd_w g1 77 18 (nI n), n, ?_, ?_, ?_, fun q hq => ?_, fun q q1 q2 q3 q4 => ?_, fun j hj => ?_⟩
  · have hz : fd_E 35 0 [some (.ref (1)), none, none, none] [] k h = fd_E 35 2 [some (.ref (1)), some (.int (nI (0))), none, none] [] k h := by
      simp (disch := first | exact fd_nl_int | exact fd_nl_ref | exact fd_nl_none | assumption | exact nI_ne0 (by omega) (by omega) | exact fd_nb0 | exact fd_nb1 | exact fd_nbb | omega) only [fs_35_0, fs_35_1, fs_35_3, fs_35_4_p1 hk, fs_35_4_p20 hk, fs_35_7_p14 hk, fs_35_7_p33 hk, fs_35_10, fs_35_13, fs_35_14_p1 hk, fs_35_14_p20 hk, fs_35_17_p14 hk, fs_35_17_p33 hk, fs_35_20, fs_35_21_p16 hk, fs_35_21_p35 hk, fs_35_22, fs_35_23, fs_35_24_p1 hk, fs_35_24_p20 hk, fs_35_27_p14 hk, fs_35_27_p33 hk, fs_35_30, fs_35_31_p19 hk, fs_35_31_p38 hk, fs_35_32, fs_35_33, fs_35_34_p1 hk, fs_35_34_p20 hk, fs_35_37_p14 hk, fs_35_37_p33 hk, fs_35_40, fs_35_41_p15 hk, fs_35_41_p34 hk, fs_35_42, fs_35_43_p1 hk, fs_35_43_p20 hk, fs_35_46, fs_35_49, fs_35_50_p1 hk, fs_35_50_p20 hk, fs_35_53, fs_35_54, fs_35_57, fs_35_58_p1 hk, fs_35_58_p20 hk, fs_35_61, fs_35_62_p5 hk, fs_35_62_p24 hk, fs_35_63, fs_35_64_p1 hk, fs_35_64_p20 hk, fs_35_67_p14 hk, fs_35_67_p33 hk, fs_35_70, fs_35_71_p17 hk, fs_35_71_p36 hk, fs_35_72, fs_35_73, fs_35_76_p5 hk, fs_35_76_p24 hk, fs_35_77, fs_35_78_p1 hk, fs_35_78_p20 hk, fs_35_81, fs_35_82, fs_35_85, fs_35_86_p1 hk, fs_35_86_p20 hk, fs_35_89, fs_35_90_p6 hk, fs_35_90_p25 hk, fs_35_91, fs_35_92_p1 hk, fs_35_92_p20 hk, fs_35_95_p14 hk, fs_35_95_p33 hk, fs_35_98, fs_35_99_p18 hk, fs_35_99_p37 hk, fs_35_100, fs_35_101, fs_35_104_p6 hk, fs_35_104_p25 hk, fs_35_105, fs_35_106, fs_35_107, fs_35_110, fs_35_111, fs_35_112, fs_35_113, fs_35_114_p1 hk, fs_35_114_p20 hk, fs_35_117_p1 hk, fs_35_117_p20 hk, fs_35_120, fs_35_123, fs_35_124_p1 hk, fs_35_124_p20 hk, fs_35_127, fs_35_128, fs_35_130, fs_35_131, fs_35_132, fs_35_133, fs_35_134_p1 hk, fs_35_134_p20 hk, fs_35_137_p13 hk, fs_35_137_p32 hk, fs_35_138, fs_35_139, fs_35_140, fs_35_141_p1 hk, fs_35_141_p20 hk, fs_35_144, fs_35_145_p12 hk, fs_35_145_p31 hk, fs_35_146_p1 hk, fs_35_146_p20 hk, fs_35_149, fs_35_152, fs_35_155, fs_35_156_p1 hk, fs_35_156_p20 hk, fs_35_159, fs_35_160_p1 hk, fs_35_160_p20 hk, fs_35_163_p14 hk, fs_35_163_p33 hk, fs_35_166, Option.bind_some, Option.toList_some, Option.toList_none, List.cons_append, List.nil_append, fd_nb0, fd_nb1, fd_nbb, fd_b0, nI_add, pk_mul, ite_not, Classical.not_not, not_false_iff, not_true, and_self, or_true, true_or, ↓reduceIte, if_true, if_false, ite_self, fd_mI, fd_mH, fd_mL, fd_p0, fd_w0, fd_w1, fd_w2, fd_10, fd_00]
    have r4 : fd_E 8 0 [some (.ref (14)), some (.int (nI (t))), none, none] [] k h1 = some (none, (k, h2)) := by
      simp (disch := first | exact fd_nl_int | exact fd_nl_ref | exact fd_nl_none | assumption | exact nI_ne0 (by omega) (by omega) | exact fd_nb0 | exact fd_nb1 | exact fd_nbb | omega) only [fs_8_0, fs_8_1_p14 hk, fs_8_1_p33 hk, fs_8_4, fs_8_5, fs_8_6, fs_8_7_p14 hk, fs_8_7_p33 hk, fs_8_10, fs_8_11, fs_8_13, fs_8_14, fs_8_17, fs_8_18_p14 hk, fs_8_18_p33 hk, fs_8_21, fs_8_22_p15 hk, fs_8_22_p34 hk, fs_8_23, fs_8_24, fs_8_27, fs_8_28, fs_8_29_p14 hk, fs_8_29_p33 hk, fs_8_32, fs_8_33_p15 hk, fs_8_33_p34 hk, fs_8_34, fs_8_35_p14 hk, fs_8_35_p33 hk, fs_8_38, fs_8_39_p16 hk, fs_8_39_p35 hk, fs_8_40, fs_8_41_p14 hk, fs_8_41_p33 hk, fs_8_44, fs_8_45_p17 hk, fs_8_45_p36 hk, fs_8_46, fs_8_47_p14 hk, fs_8_47_p33 hk, fs_8_50, fs_8_51_p18 hk, fs_8_51_p37 hk, fs_8_52, fs_8_53_p14 hk, fs_8_53_p33 hk, fs_8_56, fs_8_57_p19 hk, fs_8_57_p38 hk, fs_8_58_p14 hk, fs_8_58_p33 hk, fs_8_61, fs_8_62, fs_8_65, fs_8_68, Option.bind_some, Option.toList_some, Option.toList_none, List.cons_append, List.nil_append, fd_nb0, fd_nb1, fd_nbb, fd_b0, nI_add, pk_mul, ite_not, Classical.not_not, not_false_iff, not_true, and_self, or_true, true_or, ↓reduceIte, if_true, if_false, ite_self, fd_mI, fd_mH, fd_mL, fd_p0, fd_w0, fd_w1, fd_w2, fd_10, fd_00, e6, r3]
    rw [hz, r1]
    simp (disch := first | exact fd_nl_int | exact fd_nl_ref | exact fd_nl_none | assumption | exact nI_ne0 (by omega) (by omega) | exact fd_nb0 | exact fd_nb1 | exact fd_nbb | omega) only [fs_35_0, fs_35_1, fs_35_2, fs_35_3, fs_35_4_p1 hk, fs_35_4_p20 hk, fs_35_7_p14 hk, fs_35_7_p33 hk, fs_35_10, fs_35_13, fs_35_14_p1 hk, fs_35_14_p20 hk, fs_35_17_p14 hk, fs_35_17_p33 hk, fs_35_20, fs_35_21_p16 hk, fs_35_21_p35 hk, fs_35_22, fs_35_23, fs_35_24_p1 hk, fs_35_24_p20 hk, fs_35_27_p14 hk, fs_35_27_p33 hk, fs_35_30, fs_35_31_p19 hk, fs_35_31_p38 hk, fs_35_32, fs_35_33, fs_35_34_p1 hk, fs_35_34_p20 hk, fs_35_37_p14 hk, fs_35_37_p33 hk, fs_35_40, fs_35_41_p15 hk, fs_35_41_p34 hk, fs_35_42, fs_35_43_p1 hk, fs_35_43_p20 hk, fs_35_46, fs_35_49, fs_35_50_p1 hk, fs_35_50_p20 hk, fs_35_53, fs_35_54, fs_35_57, fs_35_58_p1 hk, fs_35_58_p20 hk, fs_35_61, fs_35_62_p5 hk, fs_35_62_p24 hk, fs_35_63, fs_35_64_p1 hk, fs_35_64_p20 hk, fs_35_67_p14 hk, fs_35_67_p33 hk, fs_35_70, fs_35_71_p17 hk, fs_35_71_p36 hk, fs_35_72, fs_35_73, fs_35_76_p5 hk, fs_35_76_p24 hk, fs_35_77, fs_35_78_p1 hk, fs_35_78_p20 hk, fs_35_81, fs_35_82, fs_35_85, fs_35_86_p1 hk, fs_35_86_p20 hk, fs_35_89, fs_35_90_p6 hk, fs_35_90_p25 hk, fs_35_91, fs_35_92_p1 hk, fs_35_92_p20 hk, fs_35_95_p14 hk, fs_35_95_p33 hk, fs_35_98, fs_35_99_p18 hk, fs_35_99_p37 hk, fs_35_100, fs_35_101, fs_35_104_p6 hk, fs_35_104_p25 hk, fs_35_105, fs_35_106, fs_35_107, fs_35_110, fs_35_111, fs_35_112, fs_35_113, fs_35_114_p1 hk, fs_35_114_p20 hk, fs_35_117_p1 hk, fs_35_117_p20 hk, fs_35_120, fs_35_123, fs_35_124_p1 hk, fs_35_124_p20 hk, fs_35_127, fs_35_128, fs_35_130, fs_35_131, fs_35_132, fs_35_133, fs_35_134_p1 hk, fs_35_134_p20 hk, fs_35_137_p13 hk, fs_35_137_p32 hk, fs_35_138, fs_35_139, fs_35_140, fs_35_141_p1 hk, fs_35_141_p20 hk, fs_35_144, fs_35_145_p12 hk, fs_35_145_p31 hk, fs_35_146_p1 hk, fs_35_146_p20 hk, fs_35_149, fs_35_152, fs_35_155, fs_35_156_p1 hk, fs_35_156_p20 hk, fs_35_159, fs_35_160_p1 hk, fs_35_160_p20 hk, fs_35_163_p14 hk, fs_35_163_p33 hk, fs_35_166, Option.bind_some, Option.toList_some, Option.toList_none, List.cons_append, List.nil_append, fd_nb0, fd_nb1, fd_nbb, fd_b0, nI_add, pk_mul, ite_not, Classical.not_not, not_false_iff, not_true, and_self, or_true, true_or, ↓reduceIte, if_true, if_false, ite_self, fd_mI, fd_mH, fd_mL, fd_p0, fd_w0, fd_w1, fd_w2, fd_10, fd_00, e1, r4]
  · have hz : fd_E 142 0 [some (.ref (77)), some (.int (nI (t))), none, none, none, none, none, none] [] k g = fd_E 142 4 [some (.ref (77)), some (.int (nI (t))), some (.int (nI (0))), some (.int (nI (0))), none, none, none, none] [] k g := by
      simp (disch := first | exact fd_nl_int | exact fd_nl_ref | exact fd_nl_none | assumption | exact nI_ne0 (by omega) (by omega) | exact fd_nb0 | exact fd_nb1 | exact fd_nbb | omega) only [fs_142_0, fs_142_1, fs_142_2, fs_142_3, fs_142_5, fs_142_6_p77 hk, fs_142_9, fs_142_12, fs_142_13_p77 hk, fs_142_16, fs_142_17_p89 hk, fs_142_18, fs_142_19, fs_142_22, fs_142_23_p77 hk, fs_142_26, fs_142_28, fs_142_29, fs_142_30_p89 hk, fs_142_31, fs_142_33, fs_142_34, fs_142_36_p77 hk, fs_142_39, fs_142_40_p77 hk, fs_142_43, fs_142_45, fs_142_46, fs_142_47_p89 hk, fs_142_48, fs_142_49, fs_142_51, fs_142_52, fs_142_54_p77 hk, fs_142_57, fs_142_58_p77 hk, fs_142_61, fs_142_63, fs_142_64, fs_142_65_p89 hk, fs_142_66, fs_142_67, fs_142_69, fs_142_70_p77 hk, fs_142_73, fs_142_75, fs_142_76, fs_142_77_p89 hk, fs_142_78, fs_142_80, fs_142_81_p77 hk, fs_142_84, fs_142_86, fs_142_88, fs_142_91, fs_142_94, fs_142_97, fs_142_100, fs_142_102_p82 hk, fs_142_103, fs_142_104_p77 hk, fs_142_107, fs_142_109, fs_142_111, fs_142_112, fs_142_114, fs_142_117, fs_142_120, fs_142_123, fs_142_126, fs_142_128_p82 hk, fs_142_129, fs_142_131, fs_142_132, fs_142_135, fs_142_136_p77 hk, fs_142_139, fs_142_141, fs_142_143, fs_142_144, fs_142_146, fs_142_147_p85 hk, fs_142_148, fs_142_149, fs_142_152, fs_142_153_p77 hk, fs_142_156, fs_142_158, fs_142_160, fs_142_161, fs_142_163, fs_142_164, fs_142_165_p85 hk, fs_142_166, fs_142_167, fs_142_169, fs_142_170_p77 hk, fs_142_173, fs_142_175_p84 hk, fs_142_176_p77 hk, fs_142_179, fs_142_182, fs_142_183, fs_142_185, fs_142_187, fs_142_188, fs_142_191, fs_142_192_p77 hk, fs_142_195, fs_142_197, fs_142_199, fs_142_200, fs_142_201, fs_142_202, fs_142_203_p77 hk, fs_142_206, fs_142_208, fs_142_210, fs_142_211, fs_142_212, fs_142_213_p89 hk, fs_142_214_p89 hk, fs_142_215, fs_142_218, fs_142_221, fs_142_224, fs_142_227, fs_142_230, fs_142_231, fs_142_232_p77 hk, fs_142_235, Option.bind_some, Option.toList_some, Option.toList_none, List.cons_append, List.nil_append, fd_nb0, fd_nb1, fd_nbb, fd_b0, nI_add, pk_mul, ite_not, Classical.not_not, not_false_iff, not_true, and_self, or_true, true_or, ↓reduceIte, if_true, if_false, ite_self, fd_mI, fd_mH, fd_mL, fd_p0, fd_w0, fd_w1, fd_w2, fd_10, fd_00]
    rw [hz]
    exact r2
  · have F3 := F1
    unfold fd_Fa at F3
    obtain ⟨⟨b1, b2, b3, b4⟩, ⟨f1, f2, f3, f4, f5, f6, f7⟩, ⟨g1', g2', g3', g4'⟩, S, O⟩ := F3
    have c3 : ∀ q, ¬ (14 ≤ q ∧ q ≤ 19) → h2.1 q = h1.1 q := fun q hq => by rw [c2 q hq, fd_wp (by omega)]
    simp only [fd_Fl, Nat.reduceAdd]
    simp (disch := omega) only [c3, fd_w0, fd_w2, fd_wp]
    refine ⟨⟨b1, b2, by omega, b4⟩, ⟨f1, f2, f3, f4, f5, e8, trivial⟩, ⟨g1', g2', g3', g4'⟩, fun s hs => ?_, O, fun i hi => ?_⟩
    · have q' := S s hs
      simp only [fd_S1, Nat.reduceAdd] at q' ⊢
      simp (disch := omega) only [c3, fd_wp]
      exact q'
    · have hi' : i < fd_kn (fd_kp C t) nb := by rw [hn']; exact hi
      have hi2 : i < fd_kn (fd_kp B t) nb := by rw [← hn]; exact hi
      have sl : fd_ks (fd_kp B t) nb i < nb := fd_ks_lt hi2
      have es := (eqP nb (Nat.le_refl _)).2 i
      have bo := hBo1 _ sl
      simp only [fd_B1, Nat.reduceAdd]
      have k0 := C2.2 0 (by omega) i hi'
      have k1 := C2.2 1 (by omega) i hi'
      have k2 := C2.2 2 (by omega) i hi'
      have k3 := C2.2 3 (by omega) i hi'
      have k4 := C2.2 4 (by omega) i hi'
      have l0 := M1.2 0 (by omega) i hi2
      have l1 := M1.2 1 (by omega) i hi2
      have l2 := M1.2 2 (by omega) i hi2
      have l3 := M1.2 3 (by omega) i hi2
      have l4 := M1.2 4 (by omega) i hi2
      rw [es, hC] at k0 k1 k2 k3 k4
      generalize fd_ks (fd_kp B t) nb i = j at *
      simp only [Nat.reduceAdd, Nat.reduceMul, Nat.zero_add] at k0 k1 k2 k3 k4 l0 l1 l2 l3 l4
      obtain ⟨a1, ⟨s, hs, a2, a2'⟩, ⟨x, hx, a3, a3'⟩, ⟨y, hy, a4, a4'⟩, a5, a6⟩ := bo
      simp (disch := omega) only [fd_wp]
      rw [k0, k1, k2, k3, k4, l0, l1, l2, l3, l4, a1, a2, a2', a3, a3', a4, a4', a5]
      exact ⟨rfl, fd_bdr (by omega) (by omega), ⟨s, hs, rfl⟩, fd_bdr (by omega) hx, fd_bdr (by omega) hy, rfl, a6⟩
  · rw [c2 q (by omega), fd_wp (by omega), c1 q (by omega) (by omega) (by omega) (by omega)]
  · rw [fd_wp q4, m1 q q1 q2 q3]
  · rw [fd_w2 hj, m1 77 (by decide) (by decide) (by decide)]
def fd_CBT (h : fd_Hp) (B : Nat → Nat → Int32) (t i : Nat) : Prop := (∀ a, a < 5 → ∀ j, i ≤ j → j < 12 → h.1 (34 + a) j = B a j) ∧ ∀ a, a < 5 → ∀ m, m < fd_kn (fd_kp B t) i → h.1 (34 + a) m = B a (fd_ks (fd_kp B t) i m)
/-- boat i's numbers -/
def fd_BoT (h : fd_Hp) (B : Nat → Nat → Int32) (ns np i : Nat) : Prop := h.1 34 i = B 0 i ∧ (∃ s, s < ns ∧ h.1 35 i = nI s ∧ B 1 i = nI s) ∧ (∃ x, x ≤ 900 ∧ h.1 36 i = nI x ∧ B 2 i = nI x) ∧ (∃ x, x ≤ 900 ∧ h.1 37 i = nI x ∧ B 3 i = nI x) ∧ h.1 38 i = B 4 i ∧ (B 4 i = -1 ∨ ∃ q, q < np ∧ B 4 i = nI q)
theorem fd_ldLT (hk : fd_Sok k fb bb dr) {ns np nb t : Nat} {B : Nat → Nat → Int32} : ∀ (m i : Nat) (h g : fd_Hp) (z1 z2 y4 y5 y6 y7 : Option Value), i + m = nb → fd_FaT h g ns np nb t → (∀ j, j < nb → fd_BoT h B ns np j) → fd_MB g B t i → ∃ h' g' v1 v2, fd_E 35 2 [some (.ref (20)), some (.int (nI (i))), z1, z2] [] k h = fd_E 35 155 [some (.ref (20)), some (.int (nI (nb))), v1, v2] [] k h' ∧ fd_E 142 4 [some (.ref (77)), some (.int (nI (t))), some (.int (nI (fd_kn (fd_kp B t) i))), some (.int (nI (i))), y4, y5, y6, y7] [] k g = some (none, (k, fd_w g' 77 18 (nI (fd_kn (fd_kp B t) nb)))) ∧ fd_FaT h' g' ns np nb t ∧ fd_MB g' B t nb ∧ (∀ q, ¬ q = 24 → ¬ q = 25 → ¬ q = 27 → ¬ q = 32 → h'.1 q = h.1 q) ∧ (∀ q, ¬ q = 82 → ¬ q = 85 → ¬ q = 89 → g'.1 q = g.1 q) := by
  intro m
  induction m with
  | zero =>
    intro i h g z1 z2 y4 y5 y6 y7 e F hB M
    obtain rfl : i = nb := by omega
    have F0 := F
    obtain ⟨⟨b1, b2, b3, b4⟩, ⟨f1, f2, f3, f4, f5, f6, f7⟩, _⟩ := F0
    have hc : nI i ≤ nI i := nI_le (by omega) (by omega)
    refine ⟨h, g, z1, z2, ?_, ?_, F, M, fun _ _ _ _ _ => rfl, fun _ _ _ _ => rfl⟩
    · rw [fs_35_2]
      simp (disch := first | exact fd_nl_int | exact fd_nl_ref | exact fd_nl_none | assumption | exact nI_ne0 (by omega) (by omega) | exact fd_nb0 | exact fd_nb1 | exact fd_nbb | omega) only [fs_35_0, fs_35_1, fs_35_3, fs_35_4_p1 hk, fs_35_4_p20 hk, fs_35_7_p14 hk, fs_35_7_p33 hk, fs_35_10, fs_35_13, fs_35_14_p1 hk, fs_35_14_p20 hk, fs_35_17_p14 hk, fs_35_17_p33 hk, fs_35_20, fs_35_21_p16 hk, fs_35_21_p35 hk, fs_35_22, fs_35_23, fs_35_24_p1 hk, fs_35_24_p20 hk, fs_35_27_p14 hk, fs_35_27_p33 hk, fs_35_30, fs_35_31_p19 hk, fs_35_31_p38 hk, fs_35_32, fs_35_33, fs_35_34_p1 hk, fs_35_34_p20 hk, fs_35_37_p14 hk, fs_35_37_p33 hk, fs_35_40, fs_35_41_p15 hk, fs_35_41_p34 hk, fs_35_42, fs_35_43_p1 hk, fs_35_43_p20 hk, fs_35_46, fs_35_49, fs_35_50_p1 hk, fs_35_50_p20 hk, fs_35_53, fs_35_54, fs_35_57, fs_35_58_p1 hk, fs_35_58_p20 hk, fs_35_61, fs_35_62_p5 hk, fs_35_62_p24 hk, fs_35_63, fs_35_64_p1 hk, fs_35_64_p20 hk, fs_35_67_p14 hk, fs_35_67_p33 hk, fs_35_70, fs_35_71_p17 hk, fs_35_71_p36 hk, fs_35_72, fs_35_73, fs_35_76_p5 hk, fs_35_76_p24 hk, fs_35_77, fs_35_78_p1 hk, fs_35_78_p20 hk, fs_35_81, fs_35_82, fs_35_85, fs_35_86_p1 hk, fs_35_86_p20 hk, fs_35_89, fs_35_90_p6 hk, fs_35_90_p25 hk, fs_35_91, fs_35_92_p1 hk, fs_35_92_p20 hk, fs_35_95_p14 hk, fs_35_95_p33 hk, fs_35_98, fs_35_99_p18 hk, fs_35_99_p37 hk, fs_35_100, fs_35_101, fs_35_104_p6 hk, fs_35_104_p25 hk, fs_35_105, fs_35_106, fs_35_107, fs_35_110, fs_35_111, fs_35_112, fs_35_113, fs_35_114_p1 hk, fs_35_114_p20 hk, fs_35_117_p1 hk, fs_35_117_p20 hk, fs_35_120, fs_35_123, fs_35_124_p1 hk, fs_35_124_p20 hk, fs_35_127, fs_35_128, fs_35_130, fs_35_131, fs_35_132, fs_35_133, fs_35_134_p1 hk, fs_35_134_p20 hk, fs_35_137_p13 hk, fs_35_137_p32 hk, fs_35_138, fs_35_139, fs_35_140, fs_35_141_p1 hk, fs_35_141_p20 hk, fs_35_144, fs_35_145_p12 hk, fs_35_145_p31 hk, fs_35_146_p1 hk, fs_35_146_p20 hk, fs_35_149, fs_35_152, fs_35_156_p1 hk, fs_35_156_p20 hk, fs_35_159, fs_35_160_p1 hk, fs_35_160_p20 hk, fs_35_163_p14 hk, fs_35_163_p33 hk, fs_35_166, Option.bind_some, Option.toList_some, Option.toList_none, List.cons_append, List.nil_append, fd_nb0, fd_nb1, fd_nbb, fd_b0, nI_add, pk_mul, ite_not, Classical.not_not, not_false_iff, not_true, and_self, or_true, true_or, ↓reduceIte, if_true, if_false, ite_self, fd_mI, fd_mH, fd_mL, fd_p0, fd_w0, fd_w1, fd_w2, fd_10, fd_00, hc, f6]
    · rw [fs_142_4]
      simp (disch := first | exact fd_nl_int | exact fd_nl_ref | exact fd_nl_none | assumption | exact nI_ne0 (by omega) (by omega) | exact fd_nb0 | exact fd_nb1 | exact fd_nbb | omega) only [fs_142_0, fs_142_1, fs_142_2, fs_142_3, fs_142_5, fs_142_6_p77 hk, fs_142_9, fs_142_12, fs_142_13_p77 hk, fs_142_16, fs_142_17_p89 hk, fs_142_18, fs_142_19, fs_142_22, fs_142_23_p77 hk, fs_142_26, fs_142_28, fs_142_29, fs_142_30_p89 hk, fs_142_31, fs_142_33, fs_142_34, fs_142_36_p77 hk, fs_142_39, fs_142_40_p77 hk, fs_142_43, fs_142_45, fs_142_46, fs_142_47_p89 hk, fs_142_48, fs_142_49, fs_142_51, fs_142_52, fs_142_54_p77 hk, fs_142_57, fs_142_58_p77 hk, fs_142_61, fs_142_63, fs_142_64, fs_142_65_p89 hk, fs_142_66, fs_142_67, fs_142_69, fs_142_70_p77 hk, fs_142_73, fs_142_75, fs_142_76, fs_142_77_p89 hk, fs_142_78, fs_142_80, fs_142_81_p77 hk, fs_142_84, fs_142_86, fs_142_88, fs_142_91, fs_142_94, fs_142_97, fs_142_100, fs_142_102_p82 hk, fs_142_103, fs_142_104_p77 hk, fs_142_107, fs_142_109, fs_142_111, fs_142_112, fs_142_114, fs_142_117, fs_142_120, fs_142_123, fs_142_126, fs_142_128_p82 hk, fs_142_129, fs_142_131, fs_142_132, fs_142_135, fs_142_136_p77 hk, fs_142_139, fs_142_141, fs_142_143, fs_142_144, fs_142_146, fs_142_147_p85 hk, fs_142_148, fs_142_149, fs_142_152, fs_142_153_p77 hk, fs_142_156, fs_142_158, fs_142_160, fs_142_161, fs_142_163, fs_142_164, fs_142_165_p85 hk, fs_142_166, fs_142_167, fs_142_169, fs_142_170_p77 hk, fs_142_173, fs_142_175_p84 hk, fs_142_176_p77 hk, fs_142_179, fs_142_182, fs_142_183, fs_142_185, fs_142_187, fs_142_188, fs_142_191, fs_142_192_p77 hk, fs_142_195, fs_142_197, fs_142_199, fs_142_200, fs_142_201, fs_142_202, fs_142_203_p77 hk, fs_142_206, fs_142_208, fs_142_210, fs_142_211, fs_142_212, fs_142_213_p89 hk, fs_142_214_p89 hk, fs_142_215, fs_142_218, fs_142_221, fs_142_224, fs_142_227, fs_142_230, fs_142_231, fs_142_232_p77 hk, fs_142_235, Option.bind_some, Option.toList_some, Option.toList_none, List.cons_append, List.nil_append, fd_nb0, fd_nb1, fd_nbb, fd_b0, nI_add, pk_mul, ite_not, Classical.not_not, not_false_iff, not_true, and_self, or_true, true_or, ↓reduceIte, if_true, if_false, ite_self, fd_mI, fd_mH, fd_mL, fd_p0, fd_w0, fd_w1, fd_w2, fd_10, fd_00, hc, f7]
  | succ m ih =>
    intro i h g z1 z2 y4 y5 y6 y7 e F hB M
    have F0 := F
    obtain ⟨⟨b1, b2, b3, b4⟩, ⟨f1, f2, f3, f4, f5, f6, f7⟩, _⟩ := F0
    have hi : i < nb := by omega
    have kl := fd_kn_le (P := fd_kp B t) i
    obtain ⟨q1, ⟨s, hs, q2, q2'⟩, ⟨x, hx, q3, q3'⟩, ⟨y, hy, q4, q4'⟩, q5, q6⟩ := hB i hi
    have M0 := M.1 0 (by omega) i (by omega) (by omega)
    have M1 := M.1 1 (by omega) i (by omega) (by omega)
    have M2 := M.1 2 (by omega) i (by omega) (by omega)
    have M3 := M.1 3 (by omega) i (by omega) (by omega)
    have M4 := M.1 4 (by omega) i (by omega) (by omega)
    simp only [Nat.reduceMul, Nat.zero_add] at M0 M1 M2 M3 M4
    by_cases d : B 0 i = nI t
    · have P0 : ¬ fd_kp B t i = true := fun z => (fd_kpT.mp z) d
      obtain ⟨h1, g1, v5, v6, r1, r2, F1, c1, m1⟩ := fd_ld2T (l := fd_kn (fd_kp B t) i) hk F hi (q1.trans d) (M0.trans d) hs q2 (M1.trans q2') hx q3 (M2.trans q3') hy q4 (M3.trans q4') q5 M4 q6 z1 z2 y4 y5 y6 y7
      have hB1 : ∀ j, j < nb → fd_BoT h1 B ns np j := fun j hj => by
        have := hB j hj
        unfold fd_BoT at this ⊢
        simp (disch := omega) only [c1]
        exact this
      have MM : fd_MB g1 B t (i + 1) := by
        refine ⟨fun a ha j j1 j2 => ?_, fun a ha m' hm => ?_⟩
        · rw [m1 89 (by decide) (by decide)]; exact M.1 a ha j (by omega) j2
        · rw [fd_kn0 P0] at hm
          rw [m1 89 (by decide) (by decide), fd_ks0 P0]; exact M.2 a ha m' hm
      obtain ⟨h2, g2, v1, v2, r3, r4, F2, M2, c2, m2⟩ := ih (i + 1) h1 g1 _ _ _ _ _ _ (by omega) F1 hB1 MM
      rw [fd_kn0 P0] at r4
      exact ⟨h2, g2, v1, v2, r1.trans r3, r2.trans r4, F2, M2, fun q a1 a2 a3 a4 => (c2 q a1 a2 a3 a4).trans (c1 q a1 a2 a3 a4), fun q a1 a2 a3 => (m2 q a1 a2 a3).trans (m1 q a1 a2)⟩
    · have P1 : fd_kp B t i = true := fd_kpT.mpr d
      have hc : ¬ nI nb ≤ nI i := nI_ge (by omega) (by omega)
      obtain ⟨w1, w2⟩ := fd_cp_in (l := fd_kn (fd_kp B t) i) (i := i) (by omega) (by omega) 5 0 g
      have r1 : fd_E 35 2 [some (.ref (20)), some (.int (nI (i))), z1, z2] [] k h = fd_E 35 2 [some (.ref (20)), some (.int (nI (i + 1))), some (.int (h.1 35 i)), some (.int (h.1 38 i))] [] k h := by
        have d' : ¬ h.1 34 i = nI t := by rw [q1]; exact d
        rw [fs_35_2]
        simp (disch := first | exact fd_nl_int | exact fd_nl_ref | exact fd_nl_none | assumption | exact nI_ne0 (by omega) (by omega) | exact fd_nb0 | exact fd_nb1 | exact fd_nbb | omega) only [fs_35_0, fs_35_1, fs_35_3, fs_35_4_p1 hk, fs_35_4_p20 hk, fs_35_7_p14 hk, fs_35_7_p33 hk, fs_35_10, fs_35_13, fs_35_14_p1 hk, fs_35_14_p20 hk, fs_35_17_p14 hk, fs_35_17_p33 hk, fs_35_20, fs_35_21_p16 hk, fs_35_21_p35 hk, fs_35_22, fs_35_23, fs_35_24_p1 hk, fs_35_24_p20 hk, fs_35_27_p14 hk, fs_35_27_p33 hk, fs_35_30, fs_35_31_p19 hk, fs_35_31_p38 hk, fs_35_32, fs_35_33, fs_35_34_p1 hk, fs_35_34_p20 hk, fs_35_37_p14 hk, fs_35_37_p33 hk, fs_35_40, fs_35_41_p15 hk, fs_35_41_p34 hk, fs_35_42, fs_35_43_p1 hk, fs_35_43_p20 hk, fs_35_46, fs_35_49, fs_35_50_p1 hk, fs_35_50_p20 hk, fs_35_53, fs_35_54, fs_35_57, fs_35_58_p1 hk, fs_35_58_p20 hk, fs_35_61, fs_35_62_p5 hk, fs_35_62_p24 hk, fs_35_63, fs_35_64_p1 hk, fs_35_64_p20 hk, fs_35_67_p14 hk, fs_35_67_p33 hk, fs_35_70, fs_35_71_p17 hk, fs_35_71_p36 hk, fs_35_72, fs_35_73, fs_35_76_p5 hk, fs_35_76_p24 hk, fs_35_77, fs_35_78_p1 hk, fs_35_78_p20 hk, fs_35_81, fs_35_82, fs_35_85, fs_35_86_p1 hk, fs_35_86_p20 hk, fs_35_89, fs_35_90_p6 hk, fs_35_90_p25 hk, fs_35_91, fs_35_92_p1 hk, fs_35_92_p20 hk, fs_35_95_p14 hk, fs_35_95_p33 hk, fs_35_98, fs_35_99_p18 hk, fs_35_99_p37 hk, fs_35_100, fs_35_101, fs_35_104_p6 hk, fs_35_104_p25 hk, fs_35_105, fs_35_106, fs_35_107, fs_35_110, fs_35_111, fs_35_112, fs_35_113, fs_35_114_p1 hk, fs_35_114_p20 hk, fs_35_117_p1 hk, fs_35_117_p20 hk, fs_35_120, fs_35_123, fs_35_124_p1 hk, fs_35_124_p20 hk, fs_35_127, fs_35_128, fs_35_130, fs_35_131, fs_35_132, fs_35_133, fs_35_134_p1 hk, fs_35_134_p20 hk, fs_35_137_p13 hk, fs_35_137_p32 hk, fs_35_138, fs_35_139, fs_35_140, fs_35_141_p1 hk, fs_35_141_p20 hk, fs_35_144, fs_35_145_p12 hk, fs_35_145_p31 hk, fs_35_146_p1 hk, fs_35_146_p20 hk, fs_35_149, fs_35_152, fs_35_155, fs_35_156_p1 hk, fs_35_156_p20 hk, fs_35_159, fs_35_160_p1 hk, fs_35_160_p20 hk, fs_35_163_p14 hk, fs_35_163_p33 hk, fs_35_166, Option.bind_some, Option.toList_some, Option.toList_none, List.cons_append, List.nil_append, fd_nb0, fd_nb1, fd_nbb, fd_b0, nI_add, pk_mul, ite_not, Classical.not_not, not_false_iff, not_true, and_self, or_true, true_or, ↓reduceIte, if_true, if_false, ite_self, fd_mI, fd_mH, fd_mL, fd_p0, fd_w0, fd_w1, fd_w2, fd_10, fd_00, hc, f6, f1, d']
      have r2 := fm_mLdNo (h := g) (l := fd_kn (fd_kp B t) i) hk kl hi b3 f7 (by rw [M0]; exact d) y4 y5 y6 y7
      have m1 : ∀ q, ¬ q = 89 → (fd_fold (fd_cpB (fd_kn (fd_kp B t) i) i) 5 0 g).1 q = g.1 q := fun q hq => funext fun j => w2 q j (fun z => hq z.1)
      have F1 : fd_FaT h (fd_fold (fd_cpB (fd_kn (fd_kp B t) i) i) 5 0 g) ns np nb t := by
        unfold fd_FaT fd_S1 at F ⊢
        simp only [Nat.reduceAdd] at F ⊢
        simp (disch := omega) only [m1]
        exact F
      have MM : fd_MB (fd_fold (fd_cpB (fd_kn (fd_kp B t) i) i) 5 0 g) B t (i + 1) := by
        refine ⟨fun a ha j j1 j2 => ?_, fun a ha m' hm => ?_⟩
        · rw [w2 89 (12 * a + j) (fun ⟨_, c, _, _, z⟩ => by omega)]
          exact M.1 a ha j (by omega) j2
        · rw [fd_kn1 P1] at hm
          by_cases z : m' = fd_kn (fd_kp B t) i
          · subst z
            rw [w1 a (by omega) (by omega), fd_ksn P1]
            exact M.1 a ha i (by omega) (by omega)
          · rw [w2 89 (12 * a + m') (fun ⟨_, c, _, _, z⟩ => by omega), fd_ks1 (by omega)]
            exact M.2 a ha m' (by omega)
      obtain ⟨h2, g2, v1, v2, r3, r4, F2, M2, c2, m2⟩ := ih (i + 1) h _ (some (.int (h.1 35 i))) (some (.int (h.1 38 i))) (some (.int (nI 5))) y5 y6 y7 (by omega) F1 hB MM
      rw [fd_kn1 P1] at r4
      exact ⟨h2, g2, v1, v2, r1.trans r3, r2.trans r4, F2, M2, c2, fun q a1 a2 a3 => (m2 q a1 a2 a3).trans (m1 q a3)⟩
theorem fm_dropT (hk : fd_Sok k fb bb dr) {nb t : Nat} {B : Nat → Nat → Int32} (n12 : nb ≤ 12) : ∀ (m i : Nat) (h : fd_Hp), i + m = nb → h.1 33 0 = nI (fd_kn (fd_kp B t) i) → fd_CBT h B t i → ∃ h', fd_E 8 12 [some (.ref (33)), some (.int (nI (t))), some (.int (nI (nb))), some (.int (nI (i)))] [] k h = some (none, (k, h')) ∧ h'.1 33 0 = nI (fd_kn (fd_kp B t) nb) ∧ fd_CBT h' B t nb ∧ ∀ q, ¬ (33 ≤ q ∧ q ≤ 38) → h'.1 q = h.1 q := by
  intro m
  induction m with
  | zero =>
    intro i h e e0 C
    obtain rfl : i = nb := by omega
    have hc : nI i ≤ nI i := nI_le (by omega) (by omega)
    refine ⟨h, ?_, e0, C, fun _ _ => rfl⟩
    rw [fs_8_12]
    simp (disch := first | exact fd_nl_int | exact fd_nl_ref | exact fd_nl_none | assumption | exact nI_ne0 (by omega) (by omega) | exact fd_nb0 | exact fd_nb1 | exact fd_nbb | omega) only [fs_8_0, fs_8_1_p14 hk, fs_8_1_p33 hk, fs_8_4, fs_8_5, fs_8_6, fs_8_7_p14 hk, fs_8_7_p33 hk, fs_8_10, fs_8_11, fs_8_13, fs_8_14, fs_8_17, fs_8_18_p14 hk, fs_8_18_p33 hk, fs_8_21, fs_8_22_p15 hk, fs_8_22_p34 hk, fs_8_23, fs_8_24, fs_8_27, fs_8_28, fs_8_29_p14 hk, fs_8_29_p33 hk, fs_8_32, fs_8_33_p15 hk, fs_8_33_p34 hk, fs_8_34, fs_8_35_p14 hk, fs_8_35_p33 hk, fs_8_38, fs_8_39_p16 hk, fs_8_39_p35 hk, fs_8_40, fs_8_41_p14 hk, fs_8_41_p33 hk, fs_8_44, fs_8_45_p17 hk, fs_8_45_p36 hk, fs_8_46, fs_8_47_p14 hk, fs_8_47_p33 hk, fs_8_50, fs_8_51_p18 hk, fs_8_51_p37 hk, fs_8_52, fs_8_53_p14 hk, fs_8_53_p33 hk, fs_8_56, fs_8_57_p19 hk, fs_8_57_p38 hk, fs_8_58_p14 hk, fs_8_58_p33 hk, fs_8_61, fs_8_62, fs_8_65, fs_8_68, Option.bind_some, Option.toList_some, Option.toList_none, List.cons_append, List.nil_append, fd_nb0, fd_nb1, fd_nbb, fd_b0, nI_add, pk_mul, ite_not, Classical.not_not, not_false_iff, not_true, and_self, or_true, true_or, ↓reduceIte, if_true, if_false, ite_self, fd_mI, fd_mH, fd_mL, fd_p0, fd_w0, fd_w1, fd_w2, fd_10, fd_00, hc]
  | succ m ih =>
    intro i h e e0 C
    have kl := fd_kn_le (P := fd_kp B t) i
    have hc : ¬ nI nb ≤ nI i := nI_ge (by omega) (by omega)
    have C0 := C.1 0 (by omega) i (by omega) (by omega)
    simp only [Nat.reduceAdd] at C0
    by_cases d : B 0 i = nI t
    · have P0 : ¬ fd_kp B t i = true := fun z => (fd_kpT.mp z) d
      have d' : h.1 34 i = nI t := C0.trans d
      obtain ⟨h2, r, e2, C2, c2⟩ := ih (i + 1) h (by omega) (by rw [fd_kn0 P0]; exact e0) ⟨fun a ha j j1 j2 => C.1 a ha j (by omega) j2, fun a ha m' hm => by
        rw [fd_kn0 P0] at hm
        rw [fd_ks0 P0]; exact C.2 a ha m' hm⟩
      refine ⟨h2, ?_, e2, C2, c2⟩
      rw [fs_8_12]
      simp (disch := first | exact fd_nl_int | exact fd_nl_ref | exact fd_nl_none | assumption | exact nI_ne0 (by omega) (by omega) | exact fd_nb0 | exact fd_nb1 | exact fd_nbb | omega) only [fs_8_0, fs_8_1_p14 hk, fs_8_1_p33 hk, fs_8_4, fs_8_5, fs_8_6, fs_8_7_p14 hk, fs_8_7_p33 hk, fs_8_10, fs_8_11, fs_8_13, fs_8_14, fs_8_17, fs_8_18_p14 hk, fs_8_18_p33 hk, fs_8_21, fs_8_22_p15 hk, fs_8_22_p34 hk, fs_8_23, fs_8_24, fs_8_27, fs_8_28, fs_8_29_p14 hk, fs_8_29_p33 hk, fs_8_32, fs_8_33_p15 hk, fs_8_33_p34 hk, fs_8_34, fs_8_35_p14 hk, fs_8_35_p33 hk, fs_8_38, fs_8_39_p16 hk, fs_8_39_p35 hk, fs_8_40, fs_8_41_p14 hk, fs_8_41_p33 hk, fs_8_44, fs_8_45_p17 hk, fs_8_45_p36 hk, fs_8_46, fs_8_47_p14 hk, fs_8_47_p33 hk, fs_8_50, fs_8_51_p18 hk, fs_8_51_p37 hk, fs_8_52, fs_8_53_p14 hk, fs_8_53_p33 hk, fs_8_56, fs_8_57_p19 hk, fs_8_57_p38 hk, fs_8_58_p14 hk, fs_8_58_p33 hk, fs_8_61, fs_8_62, fs_8_65, fs_8_68, Option.bind_some, Option.toList_some, Option.toList_none, List.cons_append, List.nil_append, fd_nb0, fd_nb1, fd_nbb, fd_b0, nI_add, pk_mul, ite_not, Classical.not_not, not_false_iff, not_true, and_self, or_true, true_or, ↓reduceIte, if_true, if_false, ite_self, fd_mI, fd_mH, fd_mL, fd_p0, fd_w0, fd_w1, fd_w2, fd_10, fd_00, hc, d', r]
    · have P1 : fd_kp B t i = true := fd_kpT.mpr d
      have d' : ¬ h.1 34 i = nI t := by rw [C0]; exact d
      generalize hl : fd_kn (fd_kp B t) i = l at e0 kl
      have lt : nI l < nI 12 := nI_lt (by omega) (by omega)
      obtain ⟨h2, r, e2, C2, c2⟩ := ih (i + 1) (fd_w (fd_w (fd_w (fd_w (fd_w (fd_w h 34 l (h.1 34 i)) 35 l (h.1 35 i)) 36 l (h.1 36 i)) 37 l (h.1 37 i)) 38 l (h.1 38 i)) 33 0 (nI (l + 1))) (by omega) (by rw [fd_w0, fd_kn1 P1, hl]) (by
        refine ⟨fun a ha j j1 j2 => ?_, fun a ha m' hm => ?_⟩
        · have := C.1 a ha j (by omega) j2
          obtain rfl | rfl | rfl | rfl | rfl : a = 0 ∨ a = 1 ∨ a = 2 ∨ a = 3 ∨ a = 4 := by omega
          all_goals simp only [Nat.reduceAdd] at this ⊢
          all_goals simp (disch := omega) only [fd_w1, fd_w2]
          all_goals exact this
        · rw [fd_kn1 P1, hl] at hm
          by_cases z : m' = l
          · subst z
            have := C.1 a ha i (by omega) (by omega)
            rw [← hl, fd_ksn P1, hl]
            obtain rfl | rfl | rfl | rfl | rfl : a = 0 ∨ a = 1 ∨ a = 2 ∨ a = 3 ∨ a = 4 := by omega
            all_goals simp only [Nat.reduceAdd] at this ⊢
            all_goals simp (disch := omega) only [fd_w0, fd_w1]
            all_goals exact this
          · have := C.2 a ha m' (by omega)
            rw [fd_ks1 (by omega)]
            obtain rfl | rfl | rfl | rfl | rfl : a = 0 ∨ a = 1 ∨ a = 2 ∨ a = 3 ∨ a = 4 := by omega
            all_goals simp only [Nat.reduceAdd] at this ⊢
            all_goals simp (disch := omega) only [fd_w1, fd_w2]
            all_goals exact this)
      refine ⟨h2, ?_, e2, C2, fun q hq => ?_⟩
      · rw [fs_8_12]
        simp (disch := first | exact fd_nl_int | exact fd_nl_ref | exact fd_nl_none | assumption | exact nI_ne0 (by omega) (by omega) | exact fd_nb0 | exact fd_nb1 | exact fd_nbb | omega) only [fs_8_0, fs_8_1_p14 hk, fs_8_1_p33 hk, fs_8_4, fs_8_5, fs_8_6, fs_8_7_p14 hk, fs_8_7_p33 hk, fs_8_10, fs_8_11, fs_8_13, fs_8_14, fs_8_17, fs_8_18_p14 hk, fs_8_18_p33 hk, fs_8_21, fs_8_22_p15 hk, fs_8_22_p34 hk, fs_8_23, fs_8_24, fs_8_27, fs_8_28, fs_8_29_p14 hk, fs_8_29_p33 hk, fs_8_32, fs_8_33_p15 hk, fs_8_33_p34 hk, fs_8_34, fs_8_35_p14 hk, fs_8_35_p33 hk, fs_8_38, fs_8_39_p16 hk, fs_8_39_p35 hk, fs_8_40, fs_8_41_p14 hk, fs_8_41_p33 hk, fs_8_44, fs_8_45_p17 hk, fs_8_45_p36 hk, fs_8_46, fs_8_47_p14 hk, fs_8_47_p33 hk, fs_8_50, fs_8_51_p18 hk, fs_8_51_p37 hk, fs_8_52, fs_8_53_p14 hk, fs_8_53_p33 hk, fs_8_56, fs_8_57_p19 hk, fs_8_57_p38 hk, fs_8_58_p14 hk, fs_8_58_p33 hk, fs_8_61, fs_8_62, fs_8_65, fs_8_68, fs_7_0, fs_7_1_p14 hk, fs_7_1_p33 hk, fs_7_4, fs_7_6, fs_7_9, fs_7_10, fs_7_11, fs_7_12_p14 hk, fs_7_12_p33 hk, fs_7_15, fs_7_16_p14 hk, fs_7_16_p33 hk, fs_7_19, fs_7_20_p15 hk, fs_7_20_p34 hk, fs_7_21, fs_7_22_p14 hk, fs_7_22_p33 hk, fs_7_25, fs_7_26_p14 hk, fs_7_26_p33 hk, fs_7_29, fs_7_30_p16 hk, fs_7_30_p35 hk, fs_7_31, fs_7_32_p14 hk, fs_7_32_p33 hk, fs_7_35, fs_7_36_p14 hk, fs_7_36_p33 hk, fs_7_39, fs_7_40_p17 hk, fs_7_40_p36 hk, fs_7_41, fs_7_42_p14 hk, fs_7_42_p33 hk, fs_7_45, fs_7_46_p14 hk, fs_7_46_p33 hk, fs_7_49, fs_7_51_p18 hk, fs_7_51_p37 hk, fs_7_52, fs_7_53_p14 hk, fs_7_53_p33 hk, fs_7_56, fs_7_57_p14 hk, fs_7_57_p33 hk, fs_7_60, fs_7_62_p19 hk, fs_7_62_p38 hk, fs_7_63, fs_7_64, fs_7_65_p14 hk, fs_7_65_p33 hk, fs_7_68, fs_7_69, fs_7_70_p14 hk, fs_7_70_p33 hk, fs_7_73, fs_7_74, Option.bind_some, Option.toList_some, Option.toList_none, List.cons_append, List.nil_append, fd_nb0, fd_nb1, fd_nbb, fd_b0, nI_add, pk_mul, ite_not, Classical.not_not, not_false_iff, not_true, and_self, or_true, true_or, ↓reduceIte, if_true, if_false, ite_self, fd_mI, fd_mH, fd_mL, fd_p0, fd_w0, fd_w1, fd_w2, fd_10, fd_00, hc, d', e0, lt, r]
      · rw [c2 q hq]
        simp (disch := omega) only [fd_wp]
theorem fd_land2T (hk : fd_Sok k fb bb dr) {ns np nb t : Nat} (F : fd_Fl 20 h g ns np nb t) : ∃ h' g' nb', fd_E 35 0 [some (.ref (20)), none, none, none] [] k h = some (none, (k, h')) ∧ fd_E 142 0 [some (.ref (77)), some (.int (nI (t))), none, none, none, none, none, none] [] k g = some (none, (k, g')) ∧ fd_Fl 20 h' g' ns np nb' t ∧ (∀ q, ¬ (24 ≤ q ∧ q ≤ 38) → h'.1 q = h.1 q) ∧ (∀ q, ¬ q = 82 → ¬ q = 85 → ¬ q = 89 → ¬ q = 77 → g'.1 q = g.1 q) ∧ ∀ j, ¬ j = 18 → g'.1 77 j = g.1 77 j := by
  obtain ⟨Fa, T⟩ := fd_FaBT F
  have F0 := Fa
  obtain ⟨⟨b1, b2, b3, b4⟩, ⟨f1, f2, f3, f4, f5, f6, f7⟩, _⟩ := F0
  obtain ⟨B, hB⟩ : ∃ B : Nat → Nat → Int32, ∀ a j, B a j = g.1 89 (12 * a + j) := ⟨fun a j => g.1 89 (12 * a + j), fun _ _ => rfl⟩
  have hBo : ∀ j, j < nb → fd_BoT h B ns np j := fun j hj => by
    have q := T j hj
    simp only [fd_B1, Nat.reduceAdd] at q
    unfold fd_BoT
    rw [hB 0 j, hB 1 j, hB 2 j, hB 3 j, hB 4 j]
    simp only [Nat.reduceMul, Nat.zero_add]
    obtain ⟨a1, ⟨s', _, _, a2, a2'⟩, ⟨s, hs, a3⟩, ⟨x, _, x1, x2, x3⟩, ⟨y, _, y1, y2, y3⟩, a6, a7⟩ := q
    refine ⟨a1, ⟨s, hs, a3, a2'.trans (a2.symm.trans a3)⟩, ⟨x, x1, x2, x3⟩, ⟨y, y1, y2, y3⟩, a6, ?_⟩
    rw [← a6]; exact a7
  have MB : fd_MB g B t 0 := ⟨fun a ha j _ _ => (hB a j).symm, fun a ha m hm => absurd hm (Nat.not_lt_zero _)⟩
  obtain ⟨h1, g1, v1, v2, r1, r2, F1, M1, c1, m1⟩ := fd_ldLT hk nb 0 h g none none none none none none (by omega) Fa hBo MB
  have F2 := F1
  obtain ⟨_, ⟨e1, e2, e3, e4, e5, e6, e7⟩, _⟩ := F2
  have hBo1 : ∀ j, j < nb → fd_BoT h1 B ns np j := fun j hj => by
    have := hBo j hj
    unfold fd_BoT at this ⊢
    simp (disch := omega) only [c1]
    exact this
  obtain ⟨C, hC⟩ : ∃ C : Nat → Nat → Int32, ∀ a j, C a j = h1.1 (34 + a) j := ⟨fun a j => h1.1 (34 + a) j, fun _ _ => rfl⟩
  have CB : fd_CBT (fd_w h1 33 0 (nI 0)) C t 0 := ⟨fun a ha j _ _ => by rw [hC, fd_w1 (by omega)], fun a ha m hm => absurd hm (Nat.not_lt_zero _)⟩
  obtain ⟨h2, r3, e8, C2, c2⟩ := fm_dropT hk b3 nb 0 (fd_w h1 33 0 (nI 0)) (by omega) fd_w0 CB
  have eqP : ∀ i, i ≤ nb → fd_kn (fd_kp C t) i = fd_kn (fd_kp B t) i ∧ ∀ m, fd_ks (fd_kp C t) i m = fd_ks (fd_kp B t) i m := by
    intro i
    induction i with
    | zero => exact fun _ => ⟨rfl, fun _ => rfl⟩
    | succ i ih =>
      intro hi
      obtain ⟨i1, i2⟩ := ih (by omega)
      have hP : fd_kp C t i = fd_kp B t i := by
        unfold fd_kp
        have := (hBo1 i (by omega)).1
        rw [hC 0 i, ← this]
      unfold fd_kn fd_ks
      exact ⟨by rw [hP, i1], fun m => by rw [hP, i1, i2]⟩
  obtain ⟨n, hn⟩ : ∃ n, n = fd_kn (fd_kp B t) nb := ⟨_, rfl⟩
  have hn' : fd_kn (fd_kp C t) nb = n := by rw [(eqP nb (Nat.le_refl _)).1, hn]
  have nle : n ≤ nb := by rw [hn]; exact fd_kn_le nb
  rw [hn'] at e8
  rw [← hn] at r2
  refine ⟨h2, fd_w g1 77 18 (nI n), n, ?_, ?_, ?_, fun q hq => ?_, fun q q1 q2 q3 q4 => ?_, fun j hj => ?_⟩
  · have hz : fd_E 35 0 [some (.ref (20)), none, none, none] [] k h = fd_E 35 2 [some (.ref (20)), some (.int (nI (0))), none, none] [] k h := by
      simp (disch := first | exact fd_nl_int | exact fd_nl_ref | exact fd_nl_none | assumption | exact nI_ne0 (by omega) (by omega) | exact fd_nb0 | exact fd_nb1 | exact fd_nbb | omega) only [fs_35_0, fs_35_1, fs_35_3, fs_35_4_p1 hk, fs_35_4_p20 hk, fs_35_7_p14 hk, fs_35_7_p33 hk, fs_35_10, fs_35_13, fs_35_14_p1 hk, fs_35_14_p20 hk, fs_35_17_p14 hk, fs_35_17_p33 hk, fs_35_20, fs_35_21_p16 hk, fs_35_21_p35 hk, fs_35_22, fs_35_23, fs_35_24_p1 hk, fs_35_24_p20 hk, fs_35_27_p14 hk, fs_35_27_p33 hk, fs_35_30, fs_35_31_p19 hk, fs_35_31_p38 hk, fs_35_32, fs_35_33, fs_35_34_p1 hk, fs_35_34_p20 hk, fs_35_37_p14 hk, fs_35_37_p33 hk, fs_35_40, fs_35_41_p15 hk, fs_35_41_p34 hk, fs_35_42, fs_35_43_p1 hk, fs_35_43_p20 hk, fs_35_46, fs_35_49, fs_35_50_p1 hk, fs_35_50_p20 hk, fs_35_53, fs_35_54, fs_35_57, fs_35_58_p1 hk, fs_35_58_p20 hk, fs_35_61, fs_35_62_p5 hk, fs_35_62_p24 hk, fs_35_63, fs_35_64_p1 hk, fs_35_64_p20 hk, fs_35_67_p14 hk, fs_35_67_p33 hk, fs_35_70, fs_35_71_p17 hk, fs_35_71_p36 hk, fs_35_72, fs_35_73, fs_35_76_p5 hk, fs_35_76_p24 hk, fs_35_77, fs_35_78_p1 hk, fs_35_78_p20 hk, fs_35_81, fs_35_82, fs_35_85, fs_35_86_p1 hk, fs_35_86_p20 hk, fs_35_89, fs_35_90_p6 hk, fs_35_90_p25 hk, fs_35_91, fs_35_92_p1 hk, fs_35_92_p20 hk, fs_35_95_p14 hk, fs_35_95_p33 hk, fs_35_98, fs_35_99_p18 hk, fs_35_99_p37 hk, fs_35_100, fs_35_101, fs_35_104_p6 hk, fs_35_104_p25 hk, fs_35_105, fs_35_106, fs_35_107, fs_35_110, fs_35_111, fs_35_112, fs_35_113, fs_35_114_p1 hk, fs_35_114_p20 hk, fs_35_117_p1 hk, fs_35_117_p20 hk, fs_35_120, fs_35_123, fs_35_124_p1 hk, fs_35_124_p20 hk, fs_35_127, fs_35_128, fs_35_130, fs_35_131, fs_35_132, fs_35_133, fs_35_134_p1 hk, fs_35_134_p20 hk, fs_35_137_p13 hk, fs_35_137_p32 hk, fs_35_138, fs_35_139, fs_35_140, fs_35_141_p1 hk, fs_35_141_p20 hk, fs_35_144, fs_35_145_p12 hk, fs_35_145_p31 hk, fs_35_146_p1 hk, fs_35_146_p20 hk, fs_35_149, fs_35_152, fs_35_155, fs_35_156_p1 hk, fs_35_156_p20 hk, fs_35_159, fs_35_160_p1 hk, fs_35_160_p20 hk, fs_35_163_p14 hk, fs_35_163_p33 hk, fs_35_166, Option.bind_some, Option.toList_some, Option.toList_none, List.cons_append, List.nil_append, fd_nb0, fd_nb1, fd_nbb, fd_b0, nI_add, pk_mul, ite_not, Classical.not_not, not_false_iff, not_true, and_self, or_true, true_or, ↓reduceIte, if_true, if_false, ite_self, fd_mI, fd_mH, fd_mL, fd_p0, fd_w0, fd_w1, fd_w2, fd_10, fd_00]
    have r4 : fd_E 8 0 [some (.ref (33)), some (.int (nI (t))), none, none] [] k h1 = some (none, (k, h2)) := by
      simp (disch := first | exact fd_nl_int | exact fd_nl_ref | exact fd_nl_none | assumption | exact nI_ne0 (by omega) (by omega) | exact fd_nb0 | exact fd_nb1 | exact fd_nbb | omega) only [fs_8_0, fs_8_1_p14 hk, fs_8_1_p33 hk, fs_8_4, fs_8_5, fs_8_6, fs_8_7_p14 hk, fs_8_7_p33 hk, fs_8_10, fs_8_11, fs_8_13, fs_8_14, fs_8_17, fs_8_18_p14 hk, fs_8_18_p33 hk, fs_8_21, fs_8_22_p15 hk, fs_8_22_p34 hk, fs_8_23, fs_8_24, fs_8_27, fs_8_28, fs_8_29_p14 hk, fs_8_29_p33 hk, fs_8_32, fs_8_33_p15 hk, fs_8_33_p34 hk, fs_8_34, fs_8_35_p14 hk, fs_8_35_p33 hk, fs_8_38, fs_8_39_p16 hk, fs_8_39_p35 hk, fs_8_40, fs_8_41_p14 hk, fs_8_41_p33 hk, fs_8_44, fs_8_45_p17 hk, fs_8_45_p36 hk, fs_8_46, fs_8_47_p14 hk, fs_8_47_p33 hk, fs_8_50, fs_8_51_p18 hk, fs_8_51_p37 hk, fs_8_52, fs_8_53_p14 hk, fs_8_53_p33 hk, fs_8_56, fs_8_57_p19 hk, fs_8_57_p38 hk, fs_8_58_p14 hk, fs_8_58_p33 hk, fs_8_61, fs_8_62, fs_8_65, fs_8_68, Option.bind_some, Option.toList_some, Option.toList_none, List.cons_append, List.nil_append, fd_nb0, fd_nb1, fd_nbb, fd_b0, nI_add, pk_mul, ite_not, Classical.not_not, not_false_iff, not_true, and_self, or_true, true_or, ↓reduceIte, if_true, if_false, ite_self, fd_mI, fd_mH, fd_mL, fd_p0, fd_w0, fd_w1, fd_w2, fd_10, fd_00, e6, r3]
    rw [hz, r1]
    simp (disch := first | exact fd_nl_int | exact fd_nl_ref | exact fd_nl_none | assumption | exact nI_ne0 (by omega) (by omega) | exact fd_nb0 | exact fd_nb1 | exact fd_nbb | omega) only [fs_35_0, fs_35_1, fs_35_2, fs_35_3, fs_35_4_p1 hk, fs_35_4_p20 hk, fs_35_7_p14 hk, fs_35_7_p33 hk, fs_35_10, fs_35_13, fs_35_14_p1 hk, fs_35_14_p20 hk, fs_35_17_p14 hk, fs_35_17_p33 hk, fs_35_20, fs_35_21_p16 hk, fs_35_21_p35 hk, fs_35_22, fs_35_23, fs_35_24_p1 hk, fs_35_24_p20 hk, fs_35_27_p14 hk, fs_35_27_p33 hk, fs_35_30, fs_35_31_p19 hk, fs_35_31_p38 hk, fs_35_32, fs_35_33, fs_35_34_p1 hk, fs_35_34_p20 hk, fs_35_37_p14 hk, fs_35_37_p33 hk, fs_35_40, fs_35_41_p15 hk, fs_35_41_p34 hk, fs_35_42, fs_35_43_p1 hk, fs_35_43_p20 hk, fs_35_46, fs_35_49, fs_35_50_p1 hk, fs_35_50_p20 hk, fs_35_53, fs_35_54, fs_35_57, fs_35_58_p1 hk, fs_35_58_p20 hk, fs_35_61, fs_35_62_p5 hk, fs_35_62_p24 hk, fs_35_63, fs_35_64_p1 hk, fs_35_64_p20 hk, fs_35_67_p14 hk, fs_35_67_p33 hk, fs_35_70, fs_35_71_p17 hk, fs_35_71_p36 hk, fs_35_72, fs_35_73, fs_35_76_p5 hk, fs_35_76_p24 hk, fs_35_77, fs_35_78_p1 hk, fs_35_78_p20 hk, fs_35_81, fs_35_82, fs_35_85, fs_35_86_p1 hk, fs_35_86_p20 hk, fs_35_89, fs_35_90_p6 hk, fs_35_90_p25 hk, fs_35_91, fs_35_92_p1 hk, fs_35_92_p20 hk, fs_35_95_p14 hk, fs_35_95_p33 hk, fs_35_98, fs_35_99_p18 hk, fs_35_99_p37 hk, fs_35_100, fs_35_101, fs_35_104_p6 hk, fs_35_104_p25 hk, fs_35_105, fs_35_106, fs_35_107, fs_35_110, fs_35_111, fs_35_112, fs_35_113, fs_35_114_p1 hk, fs_35_114_p20 hk, fs_35_117_p1 hk, fs_35_117_p20 hk, fs_35_120, fs_35_123, fs_35_124_p1 hk, fs_35_124_p20 hk, fs_35_127, fs_35_128, fs_35_130, fs_35_131, fs_35_132, fs_35_133, fs_35_134_p1 hk, fs_35_134_p20 hk, fs_35_137_p13 hk, fs_35_137_p32 hk, fs_35_138, fs_35_139, fs_35_140, fs_35_141_p1 hk, fs_35_141_p20 hk, fs_35_144, fs_35_145_p12 hk, fs_35_145_p31 hk, fs_35_146_p1 hk, fs_35_146_p20 hk, fs_35_149, fs_35_152, fs_35_155, fs_35_156_p1 hk, fs_35_156_p20 hk, fs_35_159, fs_35_160_p1 hk, fs_35_160_p20 hk, fs_35_163_p14 hk, fs_35_163_p33 hk, fs_35_166, Option.bind_some, Option.toList_some, Option.toList_none, List.cons_append, List.nil_append, fd_nb0, fd_nb1, fd_nbb, fd_b0, nI_add, pk_mul, ite_not, Classical.not_not, not_false_iff, not_true, and_self, or_true, true_or, ↓reduceIte, if_true, if_false, ite_self, fd_mI, fd_mH, fd_mL, fd_p0, fd_w0, fd_w1, fd_w2, fd_10, fd_00, e1, r4]
  · have hz : fd_E 142 0 [some (.ref (77)), some (.int (nI (t))), none, none, none, none, none, none] [] k g = fd_E 142 4 [some (.ref (77)), some (.int (nI (t))), some (.int (nI (0))), some (.int (nI (0))), none, none, none, none] [] k g := by
      simp (disch := first | exact fd_nl_int | exact fd_nl_ref | exact fd_nl_none | assumption | exact nI_ne0 (by omega) (by omega) | exact fd_nb0 | exact fd_nb1 | exact fd_nbb | omega) only [fs_142_0, fs_142_1, fs_142_2, fs_142_3, fs_142_5, fs_142_6_p77 hk, fs_142_9, fs_142_12, fs_142_13_p77 hk, fs_142_16, fs_142_17_p89 hk, fs_142_18, fs_142_19, fs_142_22, fs_142_23_p77 hk, fs_142_26, fs_142_28, fs_142_29, fs_142_30_p89 hk, fs_142_31, fs_142_33, fs_142_34, fs_142_36_p77 hk, fs_142_39, fs_142_40_p77 hk, fs_142_43, fs_142_45, fs_142_46, fs_142_47_p89 hk, fs_142_48, fs_142_49, fs_142_51, fs_142_52, fs_142_54_p77 hk, fs_142_57, fs_142_58_p77 hk, fs_142_61, fs_142_63, fs_142_64, fs_142_65_p89 hk, fs_142_66, fs_142_67, fs_142_69, fs_142_70_p77 hk, fs_142_73, fs_142_75, fs_142_76, fs_142_77_p89 hk, fs_142_78, fs_142_80, fs_142_81_p77 hk, fs_142_84, fs_142_86, fs_142_88, fs_142_91, fs_142_94, fs_142_97, fs_142_100, fs_142_102_p82 hk, fs_142_103, fs_142_104_p77 hk, fs_142_107, fs_142_109, fs_142_111, fs_142_112, fs_142_114, fs_142_117, fs_142_120, fs_142_123, fs_142_126, fs_142_128_p82 hk, fs_142_129, fs_142_131, fs_142_132, fs_142_135, fs_142_136_p77 hk, fs_142_139, fs_142_141, fs_142_143, fs_142_144, fs_142_146, fs_142_147_p85 hk, fs_142_148, fs_142_149, fs_142_152, fs_142_153_p77 hk, fs_142_156, fs_142_158, fs_142_160, fs_142_161, fs_142_163, fs_142_164, fs_142_165_p85 hk, fs_142_166, fs_142_167, fs_142_169, fs_142_170_p77 hk, fs_142_173, fs_142_175_p84 hk, fs_142_176_p77 hk, fs_142_179, fs_142_182, fs_142_183, fs_142_185, fs_142_187, fs_142_188, fs_142_191, fs_142_192_p77 hk, fs_142_195, fs_142_197, fs_142_199, fs_142_200, fs_142_201, fs_142_202, fs_142_203_p77 hk, fs_142_206, fs_142_208, fs_142_210, fs_142_211, fs_142_212, fs_142_213_p89 hk, fs_142_214_p89 hk, fs_142_215, fs_142_218, fs_142_221, fs_142_224, fs_142_227, fs_142_230, fs_142_231, fs_142_232_p77 hk, fs_142_235, Option.bind_some, Option.toList_some, Option.toList_none, List.cons_append, List.nil_append, fd_nb0, fd_nb1, fd_nbb, fd_b0, nI_add, pk_mul, ite_not, Classical.not_not, not_false_iff, not_true, and_self, or_true, true_or, ↓reduceIte, if_true, if_false, ite_self, fd_mI, fd_mH, fd_mL, fd_p0, fd_w0, fd_w1, fd_w2, fd_10, fd_00]
    rw [hz]
    exact r2
  · have F3 := F1
    unfold fd_FaT at F3
    obtain ⟨⟨b1, b2, b3, b4⟩, ⟨f1, f2, f3, f4, f5, f6, f7⟩, ⟨g1', g2', g3', g4'⟩, S, O⟩ := F3
    have c3 : ∀ q, ¬ (33 ≤ q ∧ q ≤ 38) → h2.1 q = h1.1 q := fun q hq => by rw [c2 q hq, fd_wp (by omega)]
    simp only [fd_Fl, Nat.reduceAdd]
    simp (disch := omega) only [c3, fd_w0, fd_w2, fd_wp]
    refine ⟨⟨b1, b2, by omega, b4⟩, ⟨f1, f2, f3, f4, f5, e8, trivial⟩, ⟨g1', g2', g3', g4'⟩, fun s hs => ?_, O, fun i hi => ?_⟩
    · have q' := S s hs
      simp only [fd_S1, Nat.reduceAdd] at q' ⊢
      simp (disch := omega) only [c3, fd_wp]
      exact q'
    · have hi' : i < fd_kn (fd_kp C t) nb := by rw [hn']; exact hi
      have hi2 : i < fd_kn (fd_kp B t) nb := by rw [← hn]; exact hi
      have sl : fd_ks (fd_kp B t) nb i < nb := fd_ks_lt hi2
      have es := (eqP nb (Nat.le_refl _)).2 i
      have bo := hBo1 _ sl
      simp only [fd_B1, Nat.reduceAdd]
      have k0 := C2.2 0 (by omega) i hi'
      have k1 := C2.2 1 (by omega) i hi'
      have k2 := C2.2 2 (by omega) i hi'
      have k3 := C2.2 3 (by omega) i hi'
      have k4 := C2.2 4 (by omega) i hi'
      have l0 := M1.2 0 (by omega) i hi2
      have l1 := M1.2 1 (by omega) i hi2
      have l2 := M1.2 2 (by omega) i hi2
      have l3 := M1.2 3 (by omega) i hi2
      have l4 := M1.2 4 (by omega) i hi2
      rw [es, hC] at k0 k1 k2 k3 k4
      generalize fd_ks (fd_kp B t) nb i = j at *
      simp only [Nat.reduceAdd, Nat.reduceMul, Nat.zero_add] at k0 k1 k2 k3 k4 l0 l1 l2 l3 l4
      obtain ⟨a1, ⟨s, hs, a2, a2'⟩, ⟨x, hx, a3, a3'⟩, ⟨y, hy, a4, a4'⟩, a5, a6⟩ := bo
      simp (disch := omega) only [fd_wp]
      rw [k0, k1, k2, k3, k4, l0, l1, l2, l3, l4, a1, a2, a2', a3, a3', a4, a4', a5]
      exact ⟨rfl, fd_bdr (by omega) (by omega), ⟨s, hs, rfl⟩, fd_bdr (by omega) hx, fd_bdr (by omega) hy, rfl, a6⟩
  · rw [c2 q (by omega), fd_wp (by omega), c1 q (by omega) (by omega) (by omega) (by omega)]
  · rw [fd_wp q4, m1 q q1 q2 q3]
  · rw [fd_w2 hj, m1 77 (by decide) (by decide) (by decide)]
end LANDS
