/-! THE CALL list -/
section LIST
variable {k : fd_Sk} {h g : fd_Hp} {fb bb dr b : Nat}
theorem fd_andN {a c : Nat} : nI a &&& nI c = nI (a &&& c) := by
  refine Int32.toBitVec_inj.mp ?_
  show BitVec.ofNat 32 a &&& BitVec.ofNat 32 c = BitVec.ofNat 32 (a &&& c)
  rw [BitVec.ofNat_and]
theorem fd_orN {a c : Nat} : nI a ||| nI c = nI (a ||| c) := by
  refine Int32.toBitVec_inj.mp ?_
  show BitVec.ofNat 32 a ||| BitVec.ofNat 32 c = BitVec.ofNat 32 (a ||| c)
  rw [BitVec.ofNat_or]
theorem fd_xorN {a c : Nat} : nI a ^^^ nI c = nI (a ^^^ c) := by
  refine Int32.toBitVec_inj.mp ?_
  show BitVec.ofNat 32 a ^^^ BitVec.ofNat 32 c = BitVec.ofNat 32 (a ^^^ c)
  rw [BitVec.ofNat_xor]
/-- a without c -/
def fd_dn (a c : Nat) : Nat := a &&& (c ^^^ 4294967295)
theorem fd_dnN {a c : Nat} : nI a &&& (nI c ^^^ -1) = nI (fd_dn a c) := by
  rw [show (-1 : Int32) = nI 4294967295 from rfl, fd_xorN, fd_andN]
  rfl
theorem fd_dn_lt {a c n : Nat} (ha : a < 2 ^ n) : fd_dn a c < 2 ^ n := by
  unfold fd_dn
  rw [Nat.and_comm]
  exact Nat.and_lt_two_pow _ ha
theorem fd_dn_bit {a c i : Nat} (hi : i < 32) : (fd_dn a c).testBit i = (a.testBit i && !c.testBit i) := by
  unfold fd_dn
  rw [Nat.testBit_and, Nat.testBit_xor, show (4294967295 : Nat) = 2 ^ 32 - 1 from rfl, Nat.testBit_two_pow_sub_one, decide_eq_true hi, Bool.xor_true]
theorem fm_sendAshore (hk : fd_Sok k fb bb dr) {w s : Nat} (e : h.1 70 1 = nI w) (hs : s < 4096) : fd_E 42 0 [some (.ref (70)), some (.int (nI (s))), none] [] k h = some (some (.int (nI (fd_bs (fd_dn s w) 12))), (k, fd_w h 70 1 (nI (w ||| s)))) := by
  have q : fd_dn s w < 4096 := fd_dn_lt (n := 12) hs
  have q2 := fun (g : fd_Hp) => fm_bitCount (k := k) (h := g) q
  simp (disch := first | exact fd_nl_int | exact fd_nl_ref | exact fd_nl_none | assumption | exact nI_ne0 (by omega) (by omega) | exact fd_nb0 | exact fd_nb1 | exact fd_nbb | omega) only [fs_42_0, fs_42_1, fs_42_2_p70 hk, fs_42_5, fs_42_6, fs_42_7, fs_42_8, fs_42_9, fs_42_10, fs_42_11_p70 hk, fs_42_14, fs_42_15, fs_42_16_p70 hk, fs_42_19, fs_42_20, fs_42_23, Option.bind_some, Option.toList_some, Option.toList_none, List.cons_append, List.nil_append, fd_nb0, fd_nb1, fd_nbb, fd_b0, nI_add, pk_mul, ite_not, Classical.not_not, not_false_iff, not_true, and_self, or_true, true_or, ↓reduceIte, if_true, if_false, ite_self, fd_mI, fd_mH, fd_mL, fd_p0, fd_w0, fd_w1, fd_w2, fd_10, fd_00, e, fd_dnN, fd_orN, q2]
theorem fm_bringBack (hk : fd_Sok k fb bb dr) {w s : Nat} (e : h.1 70 1 = nI w) (hs : s < 4096) : fd_E 43 0 [some (.ref (70)), some (.int (nI (s))), none] [] k h = some (some (.int (nI (fd_bs (s &&& w) 12))), (k, fd_w h 70 1 (nI (fd_dn w s)))) := by
  have q : s &&& w < 4096 := by rw [Nat.and_comm]; exact Nat.and_lt_two_pow (n := 12) _ hs
  have q2 := fun (g : fd_Hp) => fm_bitCount (k := k) (h := g) q
  simp (disch := first | exact fd_nl_int | exact fd_nl_ref | exact fd_nl_none | assumption | exact nI_ne0 (by omega) (by omega) | exact fd_nb0 | exact fd_nb1 | exact fd_nbb | omega) only [fs_43_0, fs_43_1, fs_43_2_p70 hk, fs_43_5, fs_43_6, fs_43_7, fs_43_8, fs_43_9_p70 hk, fs_43_12, fs_43_13, fs_43_14, fs_43_15, fs_43_16_p70 hk, fs_43_19, fs_43_20, fs_43_23, Option.bind_some, Option.toList_some, Option.toList_none, List.cons_append, List.nil_append, fd_nb0, fd_nb1, fd_nbb, fd_b0, nI_add, pk_mul, ite_not, Classical.not_not, not_false_iff, not_true, and_self, or_true, true_or, ↓reduceIte, if_true, if_false, ite_self, fd_mI, fd_mH, fd_mL, fd_p0, fd_w0, fd_w1, fd_w2, fd_10, fd_00, e, fd_dnN, fd_andN, q2]
end LIST
