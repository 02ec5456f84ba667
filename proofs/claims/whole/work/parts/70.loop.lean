/-! THE LAW: its loop; the claim of the pure machine -/
section LOOP
variable {i L : Nat} {xs : Nat → Int32} {k : fd_Sk} {h : fd_Hp}
theorem fl_d33 : decode (fd_code 201) 33 = .ok (.tableswitch 1331 0 33 #[151, 226, 259, 292, 355, 388, 411, 444, 477, 510, 553, 616, 629, 642, 665, 708, 751, 784, 817, 850, 893, 926, 949, 972, 1015, 1048, 1081, 1130, 1163, 1176, 1199, 1242, 1275, 1308], 151) := by decide +kernel
theorem fl_sw (I : fd_Inv k h) (hX : k.2 = (L, xs)) (hL : i + 7 ≤ L) (h9 : L ≤ 3584) {j : Nat} (hj : j < 64) : ∃ k' h', fd_Lf i 33 [.int (nI j)] k h = fd_Lf i 1364 [] k' h' ∧ fd_Inv k' h' ∧ k'.2 = (L, xs) := by
  by_cases c0 : j = 0
  · subst c0
    have st : fd_Lf i 33 [.int (nI 0)] k h = fd_Lf i 184 [] k h := fd_x_swin (t := 184) fl_d33 (by decide) (show _ = some (151 : Int) by decide +kernel) (by decide)
    obtain ⟨k', h', e1, e2, e3⟩ := fl_0 I hX hL h9
    exact ⟨k', h', st.trans e1, e2, e3⟩
  by_cases c1 : j = 1
  · subst c1
    have st : fd_Lf i 33 [.int (nI 1)] k h = fd_Lf i 259 [] k h := fd_x_swin (t := 259) fl_d33 (by decide) (show _ = some (226 : Int) by decide +kernel) (by decide)
    obtain ⟨k', h', e1, e2, e3⟩ := fl_1 I hX hL h9
    exact ⟨k', h', st.trans e1, e2, e3⟩
  by_cases c2 : j = 2
  · subst c2
    have st : fd_Lf i 33 [.int (nI 2)] k h = fd_Lf i 292 [] k h := fd_x_swin (t := 292) fl_d33 (by decide) (show _ = some (259 : Int) by decide +kernel) (by decide)
    obtain ⟨k', h', e1, e2, e3⟩ := fl_2 I hX hL h9
    exact ⟨k', h', st.trans e1, e2, e3⟩
  by_cases c3 : j = 3
  · subst c3
    have st : fd_Lf i 33 [.int (nI 3)] k h = fd_Lf i 325 [] k h := fd_x_swin (t := 325) fl_d33 (by decide) (show _ = some (292 : Int) by decide +kernel) (by decide)
    obtain ⟨k', h', e1, e2, e3⟩ := fl_3 I hX hL h9
    exact ⟨k', h', st.trans e1, e2, e3⟩
  by_cases c4 : j = 4
  · subst c4
    have st : fd_Lf i 33 [.int (nI 4)] k h = fd_Lf i 388 [] k h := fd_x_swin (t := 388) fl_d33 (by decide) (show _ = some (355 : Int) by decide +kernel) (by decide)
    obtain ⟨k', h', e1, e2, e3⟩ := fl_4 I hX hL h9
    exact ⟨k', h', st.trans e1, e2, e3⟩
  by_cases c5 : j = 5
  · subst c5
    have st : fd_Lf i 33 [.int (nI 5)] k h = fd_Lf i 421 [] k h := fd_x_swin (t := 421) fl_d33 (by decide) (show _ = some (388 : Int) by decide +kernel) (by decide)
    obtain ⟨k', h', e1, e2, e3⟩ := fl_5 I hX hL h9
    exact ⟨k', h', st.trans e1, e2, e3⟩
  by_cases c6 : j = 6
  · subst c6
    have st : fd_Lf i 33 [.int (nI 6)] k h = fd_Lf i 444 [] k h := fd_x_swin (t := 444) fl_d33 (by decide) (show _ = some (411 : Int) by decide +kernel) (by decide)
    obtain ⟨k', h', e1, e2, e3⟩ := fl_6 I hX hL h9
    exact ⟨k', h', st.trans e1, e2, e3⟩
  by_cases c7 : j = 7
  · subst c7
    have st : fd_Lf i 33 [.int (nI 7)] k h = fd_Lf i 477 [] k h := fd_x_swin (t := 477) fl_d33 (by decide) (show _ = some (444 : Int) by decide +kernel) (by decide)
    obtain ⟨k', h', e1, e2, e3⟩ := fl_7 I hX hL h9
    exact ⟨k', h', st.trans e1, e2, e3⟩
  by_cases c8 : j = 8
  · subst c8
    have st : fd_Lf i 33 [.int (nI 8)] k h = fd_Lf i 510 [] k h := fd_x_swin (t := 510) fl_d33 (by decide) (show _ = some (477 : Int) by decide +kernel) (by decide)
    obtain ⟨k', h', e1, e2, e3⟩ := fl_8 I hX hL h9
    exact ⟨k', h', st.trans e1, e2, e3⟩
  by_cases c9 : j = 9
  · subst c9
    have st : fd_Lf i 33 [.int (nI 9)] k h = fd_Lf i 543 [] k h := fd_x_swin (t := 543) fl_d33 (by decide) (show _ = some (510 : Int) by decide +kernel) (by decide)
    obtain ⟨k', h', e1, e2, e3⟩ := fl_9 I hX hL h9
    exact ⟨k', h', st.trans e1, e2, e3⟩
  by_cases c10 : j = 10
  · subst c10
    have st : fd_Lf i 33 [.int (nI 10)] k h = fd_Lf i 586 [] k h := fd_x_swin (t := 586) fl_d33 (by decide) (show _ = some (553 : Int) by decide +kernel) (by decide)
    obtain ⟨k', h', e1, e2, e3⟩ := fl_10 I hX hL h9
    exact ⟨k', h', st.trans e1, e2, e3⟩
  by_cases c11 : j = 11
  · subst c11
    have st : fd_Lf i 33 [.int (nI 11)] k h = fd_Lf i 649 [] k h := fd_x_swin (t := 649) fl_d33 (by decide) (show _ = some (616 : Int) by decide +kernel) (by decide)
    obtain ⟨k', h', e1, e2, e3⟩ := fl_11 I hX hL h9
    exact ⟨k', h', st.trans e1, e2, e3⟩
  by_cases c12 : j = 12
  · subst c12
    have st : fd_Lf i 33 [.int (nI 12)] k h = fd_Lf i 662 [] k h := fd_x_swin (t := 662) fl_d33 (by decide) (show _ = some (629 : Int) by decide +kernel) (by decide)
    obtain ⟨k', h', e1, e2, e3⟩ := fl_12 I hX hL h9
    exact ⟨k', h', st.trans e1, e2, e3⟩
  by_cases c13 : j = 13
  · subst c13
    have st : fd_Lf i 33 [.int (nI 13)] k h = fd_Lf i 675 [] k h := fd_x_swin (t := 675) fl_d33 (by decide) (show _ = some (642 : Int) by decide +kernel) (by decide)
    obtain ⟨k', h', e1, e2, e3⟩ := fl_13 I hX hL h9
    exact ⟨k', h', st.trans e1, e2, e3⟩
  by_cases c14 : j = 14
  · subst c14
    have st : fd_Lf i 33 [.int (nI 14)] k h = fd_Lf i 698 [] k h := fd_x_swin (t := 698) fl_d33 (by decide) (show _ = some (665 : Int) by decide +kernel) (by decide)
    obtain ⟨k', h', e1, e2, e3⟩ := fl_14 I hX hL h9
    exact ⟨k', h', st.trans e1, e2, e3⟩
  by_cases c15 : j = 15
  · subst c15
    have st : fd_Lf i 33 [.int (nI 15)] k h = fd_Lf i 741 [] k h := fd_x_swin (t := 741) fl_d33 (by decide) (show _ = some (708 : Int) by decide +kernel) (by decide)
    obtain ⟨k', h', e1, e2, e3⟩ := fl_15 I hX hL h9
    exact ⟨k', h', st.trans e1, e2, e3⟩
  by_cases c16 : j = 16
  · subst c16
    have st : fd_Lf i 33 [.int (nI 16)] k h = fd_Lf i 784 [] k h := fd_x_swin (t := 784) fl_d33 (by decide) (show _ = some (751 : Int) by decide +kernel) (by decide)
    obtain ⟨k', h', e1, e2, e3⟩ := fl_16 I hX hL h9
    exact ⟨k', h', st.trans e1, e2, e3⟩
  by_cases c17 : j = 17
  · subst c17
    have st : fd_Lf i 33 [.int (nI 17)] k h = fd_Lf i 817 [] k h := fd_x_swin (t := 817) fl_d33 (by decide) (show _ = some (784 : Int) by decide +kernel) (by decide)
    obtain ⟨k', h', e1, e2, e3⟩ := fl_17 I hX hL h9
    exact ⟨k', h', st.trans e1, e2, e3⟩
  by_cases c18 : j = 18
  · subst c18
    have st : fd_Lf i 33 [.int (nI 18)] k h = fd_Lf i 850 [] k h := fd_x_swin (t := 850) fl_d33 (by decide) (show _ = some (817 : Int) by decide +kernel) (by decide)
    obtain ⟨k', h', e1, e2, e3⟩ := fl_18 I hX hL h9
    exact ⟨k', h', st.trans e1, e2, e3⟩
  by_cases c19 : j = 19
  · subst c19
    have st : fd_Lf i 33 [.int (nI 19)] k h = fd_Lf i 883 [] k h := fd_x_swin (t := 883) fl_d33 (by decide) (show _ = some (850 : Int) by decide +kernel) (by decide)
    obtain ⟨k', h', e1, e2, e3⟩ := fl_19 I hX hL h9
    exact ⟨k', h', st.trans e1, e2, e3⟩
  by_cases c20 : j = 20
  · subst c20
    have st : fd_Lf i 33 [.int (nI 20)] k h = fd_Lf i 926 [] k h := fd_x_swin (t := 926) fl_d33 (by decide) (show _ = some (893 : Int) by decide +kernel) (by decide)
    obtain ⟨k', h', e1, e2, e3⟩ := fl_20 I hX hL h9
    exact ⟨k', h', st.trans e1, e2, e3⟩
  by_cases c21 : j = 21
  · subst c21
    have st : fd_Lf i 33 [.int (nI 21)] k h = fd_Lf i 959 [] k h := fd_x_swin (t := 959) fl_d33 (by decide) (show _ = some (926 : Int) by decide +kernel) (by decide)
    obtain ⟨k', h', e1, e2, e3⟩ := fl_21 I hX hL h9
    exact ⟨k', h', st.trans e1, e2, e3⟩
  by_cases c22 : j = 22
  · subst c22
    have st : fd_Lf i 33 [.int (nI 22)] k h = fd_Lf i 982 [] k h := fd_x_swin (t := 982) fl_d33 (by decide) (show _ = some (949 : Int) by decide +kernel) (by decide)
    obtain ⟨k', h', e1, e2, e3⟩ := fl_22 I hX hL h9
    exact ⟨k', h', st.trans e1, e2, e3⟩
  by_cases c23 : j = 23
  · subst c23
    have st : fd_Lf i 33 [.int (nI 23)] k h = fd_Lf i 1005 [] k h := fd_x_swin (t := 1005) fl_d33 (by decide) (show _ = some (972 : Int) by decide +kernel) (by decide)
    obtain ⟨k', h', e1, e2, e3⟩ := fl_23 I hX hL h9
    exact ⟨k', h', st.trans e1, e2, e3⟩
  by_cases c24 : j = 24
  · subst c24
    have st : fd_Lf i 33 [.int (nI 24)] k h = fd_Lf i 1048 [] k h := fd_x_swin (t := 1048) fl_d33 (by decide) (show _ = some (1015 : Int) by decide +kernel) (by decide)
    obtain ⟨k', h', e1, e2, e3⟩ := fl_24 I hX hL h9
    exact ⟨k', h', st.trans e1, e2, e3⟩
  by_cases c25 : j = 25
  · subst c25
    have st : fd_Lf i 33 [.int (nI 25)] k h = fd_Lf i 1081 [] k h := fd_x_swin (t := 1081) fl_d33 (by decide) (show _ = some (1048 : Int) by decide +kernel) (by decide)
    obtain ⟨k', h', e1, e2, e3⟩ := fl_25 I hX hL h9
    exact ⟨k', h', st.trans e1, e2, e3⟩
  by_cases c26 : j = 26
  · subst c26
    have st : fd_Lf i 33 [.int (nI 26)] k h = fd_Lf i 1114 [] k h := fd_x_swin (t := 1114) fl_d33 (by decide) (show _ = some (1081 : Int) by decide +kernel) (by decide)
    by_cases hz : xs (i + 2) = 0
    · obtain ⟨k', h', e1, e2, e3⟩ := fl_26f I hX hL h9 hz
      exact ⟨k', h', st.trans e1, e2, e3⟩
    · obtain ⟨k', h', e1, e2, e3⟩ := fl_26t I hX hL h9 hz
      exact ⟨k', h', st.trans e1, e2, e3⟩
  by_cases c27 : j = 27
  · subst c27
    have st : fd_Lf i 33 [.int (nI 27)] k h = fd_Lf i 1163 [] k h := fd_x_swin (t := 1163) fl_d33 (by decide) (show _ = some (1130 : Int) by decide +kernel) (by decide)
    obtain ⟨k', h', e1, e2, e3⟩ := fl_27 I hX hL h9
    exact ⟨k', h', st.trans e1, e2, e3⟩
  by_cases c28 : j = 28
  · subst c28
    have st : fd_Lf i 33 [.int (nI 28)] k h = fd_Lf i 1196 [] k h := fd_x_swin (t := 1196) fl_d33 (by decide) (show _ = some (1163 : Int) by decide +kernel) (by decide)
    obtain ⟨k', h', e1, e2, e3⟩ := fl_28 I hX hL h9
    exact ⟨k', h', st.trans e1, e2, e3⟩
  by_cases c29 : j = 29
  · subst c29
    have st : fd_Lf i 33 [.int (nI 29)] k h = fd_Lf i 1209 [] k h := fd_x_swin (t := 1209) fl_d33 (by decide) (show _ = some (1176 : Int) by decide +kernel) (by decide)
    obtain ⟨k', h', e1, e2, e3⟩ := fl_29 I hX hL h9
    exact ⟨k', h', st.trans e1, e2, e3⟩
  by_cases c30 : j = 30
  · subst c30
    have st : fd_Lf i 33 [.int (nI 30)] k h = fd_Lf i 1232 [] k h := fd_x_swin (t := 1232) fl_d33 (by decide) (show _ = some (1199 : Int) by decide +kernel) (by decide)
    obtain ⟨k', h', e1, e2, e3⟩ := fl_30 I hX hL h9
    exact ⟨k', h', st.trans e1, e2, e3⟩
  by_cases c31 : j = 31
  · subst c31
    have st : fd_Lf i 33 [.int (nI 31)] k h = fd_Lf i 1275 [] k h := fd_x_swin (t := 1275) fl_d33 (by decide) (show _ = some (1242 : Int) by decide +kernel) (by decide)
    obtain ⟨k', h', e1, e2, e3⟩ := fl_31 I hX hL h9
    exact ⟨k', h', st.trans e1, e2, e3⟩
  by_cases c32 : j = 32
  · subst c32
    have st : fd_Lf i 33 [.int (nI 32)] k h = fd_Lf i 1308 [] k h := fd_x_swin (t := 1308) fl_d33 (by decide) (show _ = some (1275 : Int) by decide +kernel) (by decide)
    obtain ⟨k', h', e1, e2, e3⟩ := fl_32 I hX hL h9
    exact ⟨k', h', st.trans e1, e2, e3⟩
  by_cases c33 : j = 33
  · subst c33
    have st : fd_Lf i 33 [.int (nI 33)] k h = fd_Lf i 1341 [] k h := fd_x_swin (t := 1341) fl_d33 (by decide) (show _ = some (1308 : Int) by decide +kernel) (by decide)
    obtain ⟨k', h', e1, e2, e3⟩ := fl_33 I hX hL h9
    exact ⟨k', h', st.trans e1, e2, e3⟩
  refine ⟨k, h, ?_, I, hX⟩
  exact fd_x_swout (t := 1364) fl_d33 (Or.inr (by rw [nI_toInt (by omega)]; omega)) (by decide)
theorem fl_head (I : fd_Inv k h) (hX : k.2 = (L, xs)) : fd_Lf i 18 [] k h = fd_Lf i 24 [.int (nI L - nI 7), .int (nI i)] k h := by
  have s1 : fd_Lf i 18 [] k h = fd_Lf i 19 [.int (nI i)] k h := fd_x (show decode (fd_code 201) 18 = .ok (.iload_n 3, 1) by decide +kernel) rfl
  have s2 : fd_Lf i 19 [.int (nI i)] k h = fd_Lf i 20 [.ref 1003, .int (nI i)] k h := fd_x (show decode (fd_code 201) 19 = .ok (.aload_n 0, 1) by decide +kernel) rfl
  have s3 : fd_Lf i 20 [.ref 1003, .int (nI i)] k h = fd_Lf i 21 [.int (nI L), .int (nI i)] k h := fd_x_lold (show decode (fd_code 201) 20 = .ok (.arraylength, 1) by decide +kernel) (fl_at I) (fl_old hX)
  have s4 : fd_Lf i 21 [.int (nI L), .int (nI i)] k h = fd_Lf i 23 [.int (nI 7), .int (nI L), .int (nI i)] k h := fd_x (show decode (fd_code 201) 21 = .ok (.bipush 7, 2) by decide +kernel) rfl
  have s5 : fd_Lf i 23 [.int (nI 7), .int (nI L), .int (nI i)] k h = fd_Lf i 24 [.int (nI L - nI 7), .int (nI i)] k h := fd_x (show decode (fd_code 201) 23 = .ok (.isub, 1) by decide +kernel) rfl
  exact s1.trans (s2.trans (s3.trans (s4.trans s5)))
theorem fl_if (c : Int32) : fd_Lf i 24 [.int c, .int (nI i)] k h = if c < nI i then fd_Lf i 1370 [] k h else fd_Lf i 27 [] k h := fd_x_ic_gt (t := 1370) (show decode (fd_code 201) 24 = .ok (.if_icmp .gt 1346, 3) by decide +kernel) (by decide)
theorem fl_turn (I : fd_Inv k h) (hX : k.2 = (L, xs)) (hL : i + 7 ≤ L) (h9 : L ≤ 3584) : ∃ k' h', fd_Lf i 18 [] k h = fd_Lf (i + 7) 18 [] k' h' ∧ fd_Inv k' h' ∧ k'.2 = (L, xs) := by
  have hc : ¬ nI L - nI 7 < nI i := by
    rw [nI_sub (by omega)]
    exact nI_nlt (by omega) (by omega)
  have s1 := (fl_head (i := i) I hX).trans ((fl_if _).trans (if_neg hc))
  have s2 : fd_Lf i 27 [] k h = fd_Lf i 28 [.ref 1003] k h := fd_x (show decode (fd_code 201) 27 = .ok (.aload_n 0, 1) by decide +kernel) rfl
  have s3 : fd_Lf i 28 [.ref 1003] k h = fd_Lf i 29 [.int (nI i), .ref 1003] k h := fd_x (show decode (fd_code 201) 28 = .ok (.iload_n 3, 1) by decide +kernel) rfl
  have s4 : fd_Lf i 29 [.int (nI i), .ref 1003] k h = fd_Lf i 30 [.int (xs i)] k h := fd_x_iold (show decode (fd_code 201) 29 = .ok (.iaload, 1) by decide +kernel) (fl_at I) (fl_old hX) (by omega) (by omega)
  have s5 : fd_Lf i 30 [.int (xs i)] k h = fd_Lf i 32 [.int (nI 63), .int (xs i)] k h := fd_x (show decode (fd_code 201) 30 = .ok (.bipush 63, 2) by decide +kernel) rfl
  have s6 : fd_Lf i 32 [.int (nI 63), .int (xs i)] k h = fd_Lf i 33 [.int (xs i &&& nI 63)] k h := fd_x (show decode (fd_code 201) 32 = .ok (.iand, 1) by decide +kernel) rfl
  obtain ⟨j, hj, ej⟩ := pk_andE (xs i) (m := nI 63) 6 (by decide)
  rw [ej] at s6
  obtain ⟨k', h', e1, e2, e3⟩ := fl_sw I hX hL h9 (j := j) (by omega)
  refine ⟨k', h', s1.trans (s2.trans (s3.trans (s4.trans (s5.trans (s6.trans (e1.trans ?_)))))), e2, e3⟩
  have t1 : fd_Lf i 1364 [] k' h' = fd_Lf (i + 7) 1367 [] k' h' := fd_x_inc (show decode (fd_code 201) 1364 = .ok (.iinc 3 7, 3) by decide +kernel) rfl (show nI i + Int32.ofInt 7 = nI (i + 7) from nI_add i 7) (fd_x_set (by simp) (Or.inr rfl) rfl)
  have t2 : fd_Lf (i + 7) 1367 [] k' h' = fd_Lf (i + 7) 18 [] k' h' := fd_x_goto (t := 18) (show decode (fd_code 201) 1367 = .ok (.goto (-1349), 3) by decide +kernel) (by decide)
  exact t1.trans t2
theorem fl_end (I : fd_Inv k h) (hX : k.2 = (L, xs)) (hi : i ≤ L) (hL : ¬ i + 7 ≤ L) (h9 : L ≤ 3584) : fd_Lf i 18 [] k h = some (some (.int (nI 1)), (k, h)) := by
  have hc : nI L - nI 7 < nI i := by
    rw [Int32.lt_iff_toInt_lt, pk_sub_toInt (by omega) (by omega), nI_toInt (by omega)]
    omega
  have s1 := (fl_head (i := i) I hX).trans ((fl_if _).trans (if_pos hc))
  have s2 : fd_Lf i 1370 [] k h = fd_Lf i 1371 [.int (nI 1)] k h := fd_x (show decode (fd_code 201) 1370 = .ok (.iconst 1, 1) by decide +kernel) rfl
  have s3 : fd_Lf i 1371 [.int (nI 1)] k h = some (some (.int (nI 1)), (k, h)) := fd_x_zret (show decode (fd_code 201) 1371 = .ok (.ireturn, 1) by decide +kernel) (by rfl) fd_nb1
  exact s1.trans (s2.trans s3)
theorem fl_loop (h9 : L ≤ 3584) : ∀ (m i : Nat) (k : fd_Sk) (h : fd_Hp), fd_Inv k h → k.2 = (L, xs) → i ≤ L → L - i ≤ m → ∃ k' h', fd_Lf i 18 [] k h = some (some (.int (nI 1)), (k', h')) := by
  intro m
  induction m with
  | zero =>
    intro i k h I hX hi hm
    exact ⟨k, h, fl_end I hX hi (by omega) h9⟩
  | succ m ih =>
    intro i k h I hX hi hm
    by_cases hL : i + 7 ≤ L
    · obtain ⟨k', h', e1, e2, e3⟩ := fl_turn I hX hL h9
      obtain ⟨k2, h2, e4⟩ := ih (i + 7) k' h' e2 e3 (by omega) (by omega)
      exact ⟨k2, h2, e1.trans e4⟩
    · exact ⟨k, h, fl_end I hX hi hL h9⟩
theorem fl_Sok {X : Nat × (Nat → Int32)} : fd_Sok (fd_KK 107 fd_RS X) 42 48 54 := by
  have r : ∀ q ∈ fd_RT, fd_lk fd_RS q.1 q.2.1 = q.2.2 + 1 := by decide +kernel
  refine ⟨List.take_of_length_le (by rw [fd_SHl]; exact Nat.le_refl _), r, (show fd_lk fd_RS 0 4 = 43 by decide +kernel), (show fd_lk fd_RS 0 5 = 49 by decide +kernel), (show fd_lk fd_RS 0 6 = 55 by decide +kernel), fun b hb j j1 j2 => ?_, Or.inl rfl, Or.inr (Or.inl rfl), Or.inr (Or.inr rfl), by decide, by decide, by decide⟩
  show fd_lk fd_RS b j = b + j + 1
  have key : ∀ b, b = 42 ∨ b = 48 ∨ b = 54 → ∀ j, j < 6 → 1 ≤ j → fd_lk fd_RS b j = b + j + 1 := by
    intro b hb
    rcases hb with rfl | rfl | rfl <;> decide +kernel
  exact key b hb j (by omega) j1
theorem fl_Inv {X : Nat × (Nat → Int32)} : fd_Inv (fd_KK 107 fd_RS X) (fd_HH fd_WS) := by
  refine ⟨42, 48, 54, 0, 0, 0, 0, fl_Sok, ?_, by decide +kernel, ⟨0, by omega, by decide +kernel, by decide +kernel, fun i hi => absurd hi (Nat.not_lt_zero i)⟩, ⟨0, by omega, by decide +kernel, by decide +kernel, fun a ha => absurd ha (Nat.not_lt_zero a)⟩, ⟨0, by omega, by decide +kernel, by decide +kernel, fun a ha => absurd ha (Nat.not_lt_zero a)⟩, ⟨0, by omega, by decide +kernel, by decide +kernel, fun a ha => absurd ha (Nat.not_lt_zero a)⟩, ⟨0, by omega, by decide +kernel, by decide +kernel, fun a ha => absurd ha (Nat.not_lt_zero a)⟩, ⟨⟨0, 0, by omega, by decide, by decide +kernel, by decide +kernel, by decide +kernel, fun a ha => absurd ha (Nat.not_lt_zero a)⟩, fun a ha => absurd ha (Nat.not_lt_zero a), ?_⟩, ?_⟩
  · unfold fd_Fl
    refine ⟨⟨by omega, by omega, by omega, by omega⟩, ⟨by decide +kernel, by decide +kernel, by decide +kernel, by decide +kernel, by decide +kernel, by decide +kernel, by decide +kernel⟩, ⟨⟨3, by omega, by omega, by decide +kernel, by decide +kernel⟩, ⟨0, by omega, by omega, by decide +kernel, by decide +kernel⟩, ⟨30, by omega, by omega, by decide +kernel, by decide +kernel⟩, ⟨0, by omega, by omega, by decide +kernel, by decide +kernel⟩⟩, fun a ha => absurd ha (Nat.not_lt_zero a), fun a ha => absurd ha (Nat.not_lt_zero a), fun a ha => absurd ha (Nat.not_lt_zero a)⟩
  · have key : ∀ s, s < 6 → (fd_HH fd_WS).1 73 s = nI 15 := by decide +kernel
    exact fun s _ hs => key s hs
  · have key : ∀ a, a < 5 → (fd_HH fd_WS).1 105 (2 * a) = Int32.ofInt 0 ∧ (fd_HH fd_WS).1 105 (2 * a + 1) = Int32.ofInt 0 ∧ (fd_HH fd_WS).1 76 a = Int32.ofInt 0 := by decide +kernel
    intro a ha
    obtain ⟨k1, k2, k3⟩ := key a ha
    exact ⟨0, 0, by omega, by omega, by omega, by omega, k1, k2, k3⟩
theorem fl_claim (h9 : L ≤ 3584) : fd_claim (L, xs) := by
  obtain ⟨k', h', e⟩ := fl_loop (xs := xs) h9 L 0 (fd_KK 107 fd_RS (L, xs)) (fd_HH fd_WS) fl_Inv rfl (Nat.zero_le _) (by omega)
  refine ⟨k', h', ?_⟩
  have s1 : fd_EvF (201, 16, [some (.ref 1003), some (.ref 0), some (.ref 77), none], [], (107, 2123), (fd_KK 107 fd_RS (L, xs), fd_HH fd_WS)) = fd_EvF (201, 17, [some (.ref 1003), some (.ref 0), some (.ref 77), none], [.int (nI 0)], (107, 2123), (fd_KK 107 fd_RS (L, xs), fd_HH fd_WS)) := fd_x (show decode (fd_code 201) 16 = .ok (.iconst 0, 1) by decide +kernel) rfl
  have s2 : fd_EvF (201, 17, [some (.ref 1003), some (.ref 0), some (.ref 77), none], [.int (nI 0)], (107, 2123), (fd_KK 107 fd_RS (L, xs), fd_HH fd_WS)) = fd_Lf 0 18 [] (fd_KK 107 fd_RS (L, xs)) (fd_HH fd_WS) := fd_x_isn (show decode (fd_code 201) 17 = .ok (.istore_n 3, 1) by decide +kernel) (fd_x_set (by decide) (Or.inr rfl) rfl)
  have r := fi_law.trans (s1.trans (s2.trans e))
  rw [show (nI 1 : Int32) = 1 by decide] at r
  exact r
end LOOP
