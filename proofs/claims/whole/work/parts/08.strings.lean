/-! THE TEXTS' OWN METHODS: length, charAt of the eight constants -/
def fd_Ps (ad adV : Nat → Nat) (B : Nat) (X : Nat × (Nat → Int32)) (as : List Value) : Array Value → State → Prop := fun v U => v = as.toArray ∧ fd_WC ad adV X (fun q => B ≤ q) U U.heap
theorem fd_Ps_blind {ad adV : Nat → Nat} {B : Nat} {X : Nat × (Nat → Int32)} {as : List Value} : FrameBlind (fd_Ps ad adV B X as) := fun _ U g mk q => ⟨q.1, q.2.same (u := U) rfl⟩
def fd_Qn : Array Value → State → Outcome → State → Prop := fun _ st o t => o = .returned none ∧ t.heap = st.heap
def fd_r0 (f n : Nat) : Room := { frames := f, cells := 0, slots := 0, locals := n }
theorem fd_wsJ {y : MethodName} {b : ByteArray} {n i : Nat} {rt : Option FieldType} (h : lw_tbl[i]? = some (.code y b n rt)) : GoodIn fd_tbl (Cond.code y b n rt :: fd_tbl) := fun w hw => by
  rcases List.mem_cons.mp hw with e | e
  · subst e
    exact fd_good _ (fd_tbl_in h rfl)
  · exact fd_good _ e
theorem fd_in {w : Cond} (h : decide (w ∈ lw_tbl) = true) (hg : goodWord w = true) : w ∈ fd_tbl := List.mem_filter.mpr ⟨of_decide_eq_true h, hg⟩
set_option maxRecDepth 100000 in
theorem fd_jc_length : lw_tbl[584]? = some (.code yJ0_length_8abf5 cJ0_length_8abf5 1 (some .int)) := by rfl
set_option maxRecDepth 100000 in
theorem fd_jc_charAt : lw_tbl[594]? = some (.code yJ0_charAt_5068e cJ0_charAt_5068e 2 (some .char)) := by rfl
set_option maxRecDepth 100000 in
theorem fd_jc_latin : lw_tbl[598]? = some (.code yJ0_isLatin1_aae02 cJ0_isLatin1_aae02 1 (some .boolean)) := by rfl
set_option maxRecDepth 100000 in
theorem fd_jc_coder : lw_tbl[588]? = some (.code yJ0_coder_7d493 cJ0_coder_7d493 1 (some .byte)) := by rfl
set_option maxRecDepth 100000 in
theorem fd_jc_char1 : lw_tbl[601]? = some (.code yJ1_charAt_3b067 cJ1_charAt_3b067 2 (some .char)) := by rfl
set_option maxRecDepth 100000 in
theorem fd_jc_chk : lw_tbl[604]? = some (.code yJ0_checkIndex_df160 cJ0_checkIndex_df160 2 none) := by rfl
set_option maxRecDepth 100000 in
theorem fd_jc_pre : lw_tbl[609]? = some (.code yJ3_checkIndex_8e157 cJ3_checkIndex_8e157 3 (some .int)) := by rfl
section STRS
variable (l : Launch) {ad adV : Nat → Nat} {B : Nat} {X : Nat × (Nat → Int32)} {i : Nat}
set_option maxHeartbeats 4000000 in
theorem fd_c_coder (hi : i < 8) : Met l yJ0_coder_7d493 (.code yJ0_coder_7d493 cJ0_coder_7d493 1 (some .byte) :: fd_tbl) (fd_r0 0 0) (fd_Ps ad adV B X [.ref (ad (1010 + i))]) (QcRead 0) 0 0 (fun _ => False) := by
  refine Met.ofW (cc := cJ0_coder_7d493) (maxL := 1) (ret := some .byte) (by decide) rfl ?_
  intro p e s m args below meth c s₁ Bd hml hv
  obtain ⟨rfl, hC⟩ := hv
  have hx := Bd.exec
  have hb := Bd.bytes
  have hr := Bd.returns
  have hts0 := atoms_spec (ws := .code yJ0_coder_7d493 cJ0_coder_7d493 1 (some .byte) :: fd_tbl) Bd.pre
  have hts : ∀ w ∈ fd_tbl, w.before _ s = true := fun w hw => hts0 w (List.mem_cons_of_mem _ hw)
  have hown : s.vm.findClass RJ0 = some m.cls := findClass_of_methodNamed Bd.named
  have hlocks := Bd.notSynchronized
  have hS : va_S (fun q => B ≤ q) s.heap s.heap [] := va_S.rf
  have hl := lv_entry ([.ref (ad (1010 + i))]) (n := 1) (Nat.le_of_ble_eq_true rfl)
  rw [lg_entry_eq]
  generalize (lg_sl ([.ref (ad (1010 + i))]) ++ List.replicate (1 - (lg_sl ([.ref (ad (1010 + i))])).length) Slot.unset).toArray = ls at hl ⊢
  have hl : lv_has ls 1 [(0, .ref (ad (1010 + i)))] := hl
  obtain ⟨-, -, -, -, hZ, -, hK, -⟩ := hC
  refine va_gets (own := RJ0) (ref := "java/lang/String") hx hb hZ hS hown (hts _ (fd_in (by decide +kernel) rfl)) (fun _ h => h) (show decode cJ0_coder_7d493 0 = .ok (.getstatic 38, 3) by decide +kernel) ?_
  refine lv_if_eq (tgt := 13) hx hb (show decode cJ0_coder_7d493 3 = .ok (.ifCond .eq 10, 3) by decide +kernel) (by decide) (fun z => absurd z (by decide)) (fun _ => ?_)
  refine lv_aload_n hx hb (show decode cJ0_coder_7d493 6 = .ok (.aload_n 0, 1) by decide +kernel) rfl (lv_at hl 0 rfl) ?_
  refine vk_getf (own := RJ0) (ref := "java/lang/String") hx hb (hK.1 i hi).2.1 hS hown (hts _ (fd_in (by decide +kernel) rfl)) (fun _ h => h) (show decode cJ0_coder_7d493 7 = .ok (.getfield 15, 3) by decide +kernel) ?_
  refine lv_goto (tgt := 14) hx hb (show decode cJ0_coder_7d493 10 = .ok (.goto 4, 3) by decide +kernel) (by decide) ?_
  exact W.zret (ty := .byte) hx hb hr rfl (fun t ht _ => ⟨rfl, ht⟩) (fun _ h => by cases h) (show decode cJ0_coder_7d493 14 = .ok (.ireturn, 1) by decide +kernel)
set_option maxHeartbeats 4000000 in
theorem fd_c_latin (hi : i < 8) : Met l yJ0_isLatin1_aae02 (.code yJ0_isLatin1_aae02 cJ0_isLatin1_aae02 1 (some .boolean) :: fd_tbl) (fd_r0 0 0) (fd_Ps ad adV B X [.ref (ad (1010 + i))]) (QcRead 1) 0 0 (fun _ => False) := by
  refine Met.ofW (cc := cJ0_isLatin1_aae02) (maxL := 1) (ret := some .boolean) (by decide) rfl ?_
  intro p e s m args below meth c s₁ Bd hml hv
  obtain ⟨rfl, hC⟩ := hv
  have hx := Bd.exec
  have hb := Bd.bytes
  have hr := Bd.returns
  have hts0 := atoms_spec (ws := .code yJ0_isLatin1_aae02 cJ0_isLatin1_aae02 1 (some .boolean) :: fd_tbl) Bd.pre
  have hts : ∀ w ∈ fd_tbl, w.before _ s = true := fun w hw => hts0 w (List.mem_cons_of_mem _ hw)
  have hown : s.vm.findClass RJ0 = some m.cls := findClass_of_methodNamed Bd.named
  have hlocks := Bd.notSynchronized
  have hS : va_S (fun q => B ≤ q) s.heap s.heap [] := va_S.rf
  have hl := lv_entry ([.ref (ad (1010 + i))]) (n := 1) (Nat.le_of_ble_eq_true rfl)
  rw [lg_entry_eq]
  generalize (lg_sl ([.ref (ad (1010 + i))]) ++ List.replicate (1 - (lg_sl ([.ref (ad (1010 + i))])).length) Slot.unset).toArray = ls at hl ⊢
  have hl : lv_has ls 1 [(0, .ref (ad (1010 + i)))] := hl
  obtain ⟨-, -, -, -, hZ, -, hK, -⟩ := hC
  refine va_gets (own := RJ0) (ref := "java/lang/String") hx hb hZ hS hown (hts _ (fd_in (by decide +kernel) rfl)) (fun _ h => h) (show decode cJ0_isLatin1_aae02 0 = .ok (.getstatic 38, 3) by decide +kernel) ?_
  refine lv_if_eq (tgt := 17) hx hb (show decode cJ0_isLatin1_aae02 3 = .ok (.ifCond .eq 14, 3) by decide +kernel) (by decide) (fun z => absurd z (by decide)) (fun _ => ?_)
  refine lv_aload_n hx hb (show decode cJ0_isLatin1_aae02 6 = .ok (.aload_n 0, 1) by decide +kernel) rfl (lv_at hl 0 rfl) ?_
  refine vk_getf (own := RJ0) (ref := "java/lang/String") hx hb (hK.1 i hi).2.1 hS hown (hts _ (fd_in (by decide +kernel) rfl)) (fun _ h => h) (show decode cJ0_isLatin1_aae02 7 = .ok (.getfield 15, 3) by decide +kernel) ?_
  refine lv_if_ne (tgt := 17) hx hb (show decode cJ0_isLatin1_aae02 10 = .ok (.ifCond .ne 7, 3) by decide +kernel) (by decide) (fun z => absurd rfl z) (fun _ => ?_)
  refine lv_iconst (v := 1) hx hb (show decode cJ0_isLatin1_aae02 13 = .ok (.iconst 1, 1) by decide +kernel) (by decide) ?_
  refine lv_goto (tgt := 18) hx hb (show decode cJ0_isLatin1_aae02 14 = .ok (.goto 4, 3) by decide +kernel) (by decide) ?_
  exact W.zret (ty := .boolean) hx hb hr rfl (fun t ht _ => ⟨rfl, ht⟩) (fun _ h => by cases h) (show decode cJ0_isLatin1_aae02 18 = .ok (.ireturn, 1) by decide +kernel)
set_option maxHeartbeats 4000000 in
theorem fd_c_length (hi : i < 8) : Met l yJ0_length_8abf5 (.code yJ0_length_8abf5 cJ0_length_8abf5 1 (some .int) :: fd_tbl) (fd_r0 1 20) (fd_Ps ad adV B X [.ref (ad (1010 + i))]) (QcRead (nI (fd_txt.getD i []).length)) 0 0 (fun _ => False) := by
  refine Met.ofW (cc := cJ0_length_8abf5) (maxL := 1) (ret := some .int) (by decide) rfl ?_
  intro p e s m args below meth c s₁ Bd hml hv
  obtain ⟨rfl, hC⟩ := hv
  have hx := Bd.exec
  have hb := Bd.bytes
  have hr := Bd.returns
  have hts0 := atoms_spec (ws := .code yJ0_length_8abf5 cJ0_length_8abf5 1 (some .int) :: fd_tbl) Bd.pre
  have hts : ∀ w ∈ fd_tbl, w.before _ s = true := fun w hw => hts0 w (List.mem_cons_of_mem _ hw)
  have hown : s.vm.findClass RJ0 = some m.cls := findClass_of_methodNamed Bd.named
  have hlocks := Bd.notSynchronized
  have hS : va_S (fun q => B ≤ q) s.heap s.heap [] := va_S.rf
  have hl := lv_entry ([.ref (ad (1010 + i))]) (n := 1) (Nat.le_of_ble_eq_true rfl)
  rw [lg_entry_eq]
  generalize (lg_sl ([.ref (ad (1010 + i))]) ++ List.replicate (1 - (lg_sl ([.ref (ad (1010 + i))])).length) Slot.unset).toArray = ls at hl ⊢
  have hl : lv_has ls 1 [(0, .ref (ad (1010 + i)))] := hl
  obtain ⟨-, -, -, -, hZ, -, hK, -⟩ := id hC
  have hlen : fd_lens.getD i 0 = (fd_txt.getD i []).length ∧ nI (fd_txt.getD i []).length >>> ((0 : Int32) &&& 31) = nI (fd_txt.getD i []).length := by
    have h8 : ∀ i, i < 8 → (fd_lens.getD i 0 = (fd_txt.getD i []).length ∧ nI (fd_txt.getD i []).length >>> ((0 : Int32) &&& 31) = nI (fd_txt.getD i []).length) := by decide +kernel
    exact h8 i hi
  refine lv_aload_n hx hb (show decode cJ0_length_8abf5 0 = .ok (.aload_n 0, 1) by decide +kernel) rfl (lv_at hl 0 rfl) ?_
  refine vk_getf (own := RJ0) (ref := "java/lang/String") hx hb (hK.1 i hi).2.2.1 hS hown (hts _ (fd_in (by decide +kernel) rfl)) (fun _ h => h) (show decode cJ0_length_8abf5 1 = .ok (.getfield 9, 3) by decide +kernel) ?_
  refine va_tlen hx hb (hK.1 i hi).2.2.2 hS (v := nI (fd_txt.getD i []).length) (by rw [hlen.1]; rfl) (show decode cJ0_length_8abf5 4 = .ok (.arraylength, 1) by decide +kernel) ?_
  refine lv_aload_n hx hb (show decode cJ0_length_8abf5 5 = .ok (.aload_n 0, 1) by decide +kernel) rfl (lv_at hl 0 rfl) ?_
  refine W.callR (W.runV (As := []) (rest := [.int (nI (fd_txt.getD i []).length)]) (C := RJ0) (own := RJ0) ⟨hx, hb, hml, hown, hts⟩ (fd_c_coder l (ad := ad) (adV := adV) (B := B) (X := X) hi) ⟨callB_of 0 hts (fd_wsJ fd_jc_coder) rfl rfl rfl (hts _ (fd_in (by decide +kernel) rfl)) (hts _ (fd_in (w := .methodLink RJ0 335 yJ0_coder_7d493) (by decide +kernel) rfl)) ⟨by decide, by decide, by decide +kernel⟩ ⟨Nat.le_of_ble_eq_true rfl, Nat.le_of_ble_eq_true rfl⟩, hts _ (fd_in (by decide +kernel) rfl), hts _ (fd_in (by decide +kernel) rfl)⟩ ⟨fd_Ps_blind, vk_recv hK hi hS, fun U hU hW => ⟨rfl, by rw [hU]; exact hC.warm hW⟩⟩ rfl rfl hl.1 rfl (lv_room (Nat.le_of_ble_eq_true rfl)) (show decode cJ0_length_8abf5 6 = .ok (.invokevirtual 335, 3) by decide +kernel) ⟨Nat.zero_le _, Nat.zero_le _⟩) ?_
  refine lv_ishr hx hb (show decode cJ0_length_8abf5 9 = .ok (.ishr, 1) by decide +kernel) ?_
  rw [hlen.2]
  exact W.iret hx hb hr (fun t ht _ => ⟨rfl, ht⟩) (fun _ h => by cases h) (show decode cJ0_length_8abf5 10 = .ok (.ireturn, 1) by decide +kernel)
set_option maxHeartbeats 4000000 in
theorem fd_c_pre {x n : Int32} {w : Value} (hw : w.category = 1) (h0 : ¬ x < 0) (h1 : x < n) : Met l yJ3_checkIndex_8e157 (.code yJ3_checkIndex_8e157 cJ3_checkIndex_8e157 3 (some .int) :: fd_tbl) (fd_r0 0 0) (fd_Ps ad adV B X [.int x, .int n, w]) (QcRead x) 0 0 (fun _ => False) := by
  refine Met.ofW (cc := cJ3_checkIndex_8e157) (maxL := 3) (ret := some .int) (by decide) rfl ?_
  intro p e s m args below meth c s₁ Bd hml hv
  obtain ⟨rfl, hC⟩ := hv
  have hx := Bd.exec
  have hb := Bd.bytes
  have hr := Bd.returns
  have hlocks := Bd.notSynchronized
  have e3 : (lg_sl ([.int x, .int n, w])).length = 3 := by
    show (lg_sl [w]).length + 2 = 3
    simp [lg_sl, hw]
  have hl := lv_entry ([.int x, .int n, w]) (n := 3) (by rw [e3]; exact Nat.le_refl 3)
  rw [lg_entry_eq]
  generalize (lg_sl ([.int x, .int n, w]) ++ List.replicate (3 - (lg_sl ([.int x, .int n, w])).length) Slot.unset).toArray = ls at hl ⊢
  have hl : lv_has ls 3 [(0, .int x), (1, .int n), (2, w)] := hl
  refine lv_iload_n hx hb (show decode cJ3_checkIndex_8e157 0 = .ok (.iload_n 0, 1) by decide +kernel) rfl (lv_at hl 0 rfl) ?_
  refine lv_if_lt (tgt := 9) hx hb (show decode cJ3_checkIndex_8e157 1 = .ok (.ifCond .lt 8, 3) by decide +kernel) (by decide) (fun z => absurd z h0) (fun _ => ?_)
  refine lv_iload_n hx hb (show decode cJ3_checkIndex_8e157 4 = .ok (.iload_n 0, 1) by decide +kernel) rfl (lv_at hl 0 rfl) ?_
  refine lv_iload_n hx hb (show decode cJ3_checkIndex_8e157 5 = .ok (.iload_n 1, 1) by decide +kernel) rfl (lv_at hl 1 rfl) ?_
  refine lv_icmp_lt (tgt := 16) hx hb (show decode cJ3_checkIndex_8e157 6 = .ok (.if_icmp .lt 10, 3) by decide +kernel) (by decide) (fun _ => ?_) (fun z => absurd h1 z)
  refine lv_iload_n hx hb (show decode cJ3_checkIndex_8e157 16 = .ok (.iload_n 0, 1) by decide +kernel) rfl (lv_at hl 0 rfl) ?_
  exact W.iret hx hb hr (fun t ht _ => ⟨rfl, ht⟩) (fun _ h => by cases h) (show decode cJ3_checkIndex_8e157 17 = .ok (.ireturn, 1) by decide +kernel)
theorem fd_callN {p : Program} {e : Env} {R : Room} {s : State} {m : MethodId} {args : Array Value} {below : List Frame} {meth : Method} {c : Code} {H : Heap} {locs : List Loc} {cells slots : Nat} {Q : State → Prop} {g : JFrame} {rest : List Value} {a : Array Value} (hr : CallRun p l e R s m args below meth c H locs cells slots 0 0 g rest (fd_Qn a) (fun _ => False)) (kk : W p l e R s m args below meth c H locs cells slots Q { g with pc := g.pc + 3, stack := rest }) : W p l e R s m args below meth c H locs cells slots Q g := by
  intro T hT X
  obtain ⟨v, st₀, t, T', L, h0, X', hL, e1, ⟨hv, hh⟩, st⟩ := hr T hT X
  cases hv
  obtain ⟨t2, a1, b1⟩ := kk T' (by rw [e1, hh, h0]) (Stand.forget X' (fun q h => (hL q h).elim))
  exact ⟨t2, st t2 a1, b1⟩
set_option maxHeartbeats 4000000 in
theorem fd_c_chk {x n : Int32} (h0 : ¬ x < 0) (h1 : x < n) : Met l yJ0_checkIndex_df160 (.code yJ0_checkIndex_df160 cJ0_checkIndex_df160 2 none :: fd_tbl) (fd_r0 1 22) (fd_Ps ad adV B X [.int x, .int n]) fd_Qn 0 0 (fun _ => False) := by
  refine Met.ofW (cc := cJ0_checkIndex_df160) (maxL := 2) (ret := none) (by decide) rfl ?_
  intro p e s m args below meth c s₁ Bd hml hv
  obtain ⟨rfl, hC⟩ := hv
  have hx := Bd.exec
  have hb := Bd.bytes
  have hr := Bd.returns
  have hts0 := atoms_spec (ws := .code yJ0_checkIndex_df160 cJ0_checkIndex_df160 2 none :: fd_tbl) Bd.pre
  have hts : ∀ w ∈ fd_tbl, w.before _ s = true := fun w hw => hts0 w (List.mem_cons_of_mem _ hw)
  have hown : s.vm.findClass RJ0 = some m.cls := findClass_of_methodNamed Bd.named
  have hlocks := Bd.notSynchronized
  have hS : va_S (fun q => B ≤ q) s.heap s.heap [] := va_S.rf
  have hl := lv_entry ([.int x, .int n]) (n := 2) (Nat.le_of_ble_eq_true rfl)
  rw [lg_entry_eq]
  generalize (lg_sl ([.int x, .int n]) ++ List.replicate (2 - (lg_sl ([.int x, .int n])).length) Slot.unset).toArray = ls at hl ⊢
  have hl : lv_has ls 2 [(0, .int x), (1, .int n)] := hl
  obtain ⟨-, -, -, -, -, hq, -⟩ := id hC
  have fin : ∀ w : Value, w.category = 1 → W p l e (headSpec (Cond.code yJ0_checkIndex_df160 cJ0_checkIndex_df160 2 none :: fd_tbl) (fd_r0 1 22)).room s m ([.int x, .int n] : List Value).toArray below meth c s.heap [] 0 0 (MQ below fd_Qn ([.int x, .int n] : List Value).toArray s 0 0 (fun _ => False)) (F0 m 5 ls (w :: .int n :: .int x :: [])) := by
    intro w hw
    refine W.callR (W.runS (As := [.int x, .int n, w]) (rest := []) (own := RJ0) ⟨hx, hb, hml, hown, hts⟩ (fd_c_pre l (ad := ad) (adV := adV) (B := B) (X := X) hw h0 h1) ⟨callB_of 3 hts (fd_wsJ fd_jc_pre) rfl rfl rfl (hts _ (fd_in (by decide +kernel) rfl)) (hts _ (fd_in (w := .methodLink RJ0 1059 yJ3_checkIndex_8e157) (by decide +kernel) rfl)) ⟨by decide, by decide, by decide +kernel⟩ ⟨Nat.le_of_ble_eq_true rfl, Nat.le_of_ble_eq_true rfl⟩, hts _ (fd_in (by decide +kernel) rfl)⟩ ⟨fd_Ps_blind, fun U hU hW => ⟨rfl, by rw [hU]; exact hC.warm hW⟩⟩ rfl rfl hl.1 rfl (lv_room (Nat.le_of_ble_eq_true rfl)) (show decode cJ0_checkIndex_df160 5 = .ok (.invokestatic 1059, 3) by decide +kernel) ⟨Nat.zero_le _, Nat.zero_le _⟩) ?_
    refine lv_pop hx hb (show decode cJ0_checkIndex_df160 8 = .ok (.pop, 1) by decide +kernel) rfl ?_
    exact W.vret hx hb hr (fun t ht _ => ⟨rfl, ht⟩) (fun _ h => by cases h) (show decode cJ0_checkIndex_df160 9 = .ok (.return_, 1) by decide +kernel)
  refine lv_iload_n hx hb (show decode cJ0_checkIndex_df160 0 = .ok (.iload_n 0, 1) by decide +kernel) rfl (lv_at hl 0 rfl) ?_
  refine lv_iload_n hx hb (show decode cJ0_checkIndex_df160 1 = .ok (.iload_n 1, 1) by decide +kernel) rfl (lv_at hl 1 rfl) ?_
  rcases hq with hq | ⟨t, hq⟩
  · exact va_gets (own := RJ0) (ref := "jdk/internal/util/Preconditions") hx hb hq hS hown (hts _ (fd_in (by decide +kernel) rfl)) (fun _ h => h) (show decode cJ0_checkIndex_df160 2 = .ok (.getstatic 1053, 3) by decide +kernel) (fin _ rfl)
  · exact va_gets (own := RJ0) (ref := "jdk/internal/util/Preconditions") hx hb hq hS hown (hts _ (fd_in (by decide +kernel) rfl)) (fun _ h => h) (show decode cJ0_checkIndex_df160 2 = .ok (.getstatic 1053, 3) by decide +kernel) (fin _ rfl)
theorem fd_txt_ok : ∀ i, i < 8 → (fd_lens.getD i 0 = (fd_txt.getD i []).length ∧ (fd_txt.getD i []).length < 100 ∧ ∀ k, k < (fd_txt.getD i []).length → ((((fd_txt.getD i []).getD k 0 &&& (Int16.ofInt 255).toInt32).toUInt32 % 65536).toInt32 = (fd_txt.getD i []).getD k 0 ∧ narrow .char (.int ((fd_txt.getD i []).getD k 0)) = .int ((fd_txt.getD i []).getD k 0))) := by decide +kernel
set_option maxHeartbeats 4000000 in
theorem fd_c_char1 (hi : i < 8) {x : Int32} (hin : ¬ (x < 0 ∨ (fd_txt.getD i []).length ≤ x.toNatClampNeg)) : Met l yJ1_charAt_3b067 (.code yJ1_charAt_3b067 cJ1_charAt_3b067 2 (some .char) :: fd_tbl) (fd_r0 2 43) (fd_Ps ad adV B X [.ref (adV i), .int x]) (QcRead ((fd_txt.getD i []).getD x.toNatClampNeg 0)) 0 0 (fun _ => False) := by
  refine Met.ofW (cc := cJ1_charAt_3b067) (maxL := 2) (ret := some .char) (by decide) rfl ?_
  intro p e s m args below meth c s₁ Bd hml hv
  obtain ⟨rfl, hC⟩ := hv
  have hx := Bd.exec
  have hb := Bd.bytes
  have hr := Bd.returns
  have hts0 := atoms_spec (ws := .code yJ1_charAt_3b067 cJ1_charAt_3b067 2 (some .char) :: fd_tbl) Bd.pre
  have hts : ∀ w ∈ fd_tbl, w.before _ s = true := fun w hw => hts0 w (List.mem_cons_of_mem _ hw)
  have hown : s.vm.findClass RJ1 = some m.cls := findClass_of_methodNamed Bd.named
  have hlocks := Bd.notSynchronized
  have hS : va_S (fun q => B ≤ q) s.heap s.heap [] := va_S.rf
  have hl := lv_entry ([.ref (adV i), .int x]) (n := 2) (Nat.le_of_ble_eq_true rfl)
  rw [lg_entry_eq]
  generalize (lg_sl ([.ref (adV i), .int x]) ++ List.replicate (2 - (lg_sl ([.ref (adV i), .int x])).length) Slot.unset).toArray = ls at hl ⊢
  have hl : lv_has ls 2 [(0, .ref (adV i)), (1, .int x)] := hl
  obtain ⟨-, -, -, -, -, -, hK, -⟩ := id hC
  obtain ⟨hlen, h100, hch⟩ := fd_txt_ok i hi
  have hx0 : ¬ x < 0 := fun z => hin (Or.inl z)
  have hxl : x.toNatClampNeg < (fd_txt.getD i []).length := Nat.not_le.mp fun z => hin (Or.inr z)
  obtain ⟨j, hj, rfl⟩ := nI_of hx0
  rw [nI_clamp hj] at hxl
  obtain ⟨hc1, hc2⟩ := hch j hxl
  have hxn : nI j < nI (fd_txt.getD i []).length := nI_lt hxl (by omega)
  refine lv_iload_n hx hb (show decode cJ1_charAt_3b067 0 = .ok (.iload_n 1, 1) by decide +kernel) rfl (lv_at hl 1 rfl) ?_
  refine lv_aload_n hx hb (show decode cJ1_charAt_3b067 1 = .ok (.aload_n 0, 1) by decide +kernel) rfl (lv_at hl 0 rfl) ?_
  refine va_tlen hx hb (hK.1 i hi).2.2.2 hS (v := nI (fd_txt.getD i []).length) (by rw [hlen]; rfl) (show decode cJ1_charAt_3b067 2 = .ok (.arraylength, 1) by decide +kernel) ?_
  refine fd_callN l (W.runS (As := [.int (nI j), .int (nI (fd_txt.getD i []).length)]) (rest := []) (own := RJ1) ⟨hx, hb, hml, hown, hts⟩ (fd_c_chk l (ad := ad) (adV := adV) (B := B) (X := X) hx0 hxn) ⟨callB_of 2 hts (fd_wsJ fd_jc_chk) rfl rfl rfl (hts _ (fd_in (by decide +kernel) rfl)) (hts _ (fd_in (w := .methodLink RJ1 9 yJ0_checkIndex_df160) (by decide +kernel) rfl)) ⟨by decide, by decide, by decide +kernel⟩ ⟨Nat.le_of_ble_eq_true rfl, Nat.le_of_ble_eq_true rfl⟩, hts _ (fd_in (by decide +kernel) rfl)⟩ ⟨fd_Ps_blind, fun U hU hW => ⟨rfl, by rw [hU]; exact hC.warm hW⟩⟩ rfl rfl hl.1 rfl (lv_room (Nat.le_of_ble_eq_true rfl)) (show decode cJ1_charAt_3b067 3 = .ok (.invokestatic 9, 3) by decide +kernel) ⟨Nat.zero_le _, Nat.zero_le _⟩) ?_
  refine lv_aload_n hx hb (show decode cJ1_charAt_3b067 6 = .ok (.aload_n 0, 1) by decide +kernel) rfl (lv_at hl 0 rfl) ?_
  refine lv_iload_n hx hb (show decode cJ1_charAt_3b067 7 = .ok (.iload_n 1, 1) by decide +kernel) rfl (lv_at hl 1 rfl) ?_
  refine va_tb hx hb (hK.1 i hi).2.2.2 hS (v := .int ((fd_txt.getD i []).getD j 0)) (by rw [hlen]; exact vp_in_nI hxl (by omega)) (by rw [nI_clamp hj]) (show decode cJ1_charAt_3b067 8 = .ok (.baload, 1) by decide +kernel) ?_
  refine lv_sipush hx hb (show decode cJ1_charAt_3b067 9 = .ok (.sipush 255, 3) by decide +kernel) rfl ?_
  refine lv_iand hx hb (show decode cJ1_charAt_3b067 12 = .ok (.iand, 1) by decide +kernel) ?_
  refine lv_i2c hx hb (show decode cJ1_charAt_3b067 13 = .ok (.i2c, 1) by decide +kernel) hc1 ?_
  exact W.zret (ty := .char) hx hb hr hc2 (fun t ht _ => ⟨by rw [nI_clamp hj], ht⟩) (fun _ h => by cases h) (show decode cJ1_charAt_3b067 14 = .ok (.ireturn, 1) by decide +kernel)
set_option maxHeartbeats 4000000 in
theorem fd_c_charAt (hi : i < 8) {x : Int32} (hin : ¬ (x < 0 ∨ (fd_txt.getD i []).length ≤ x.toNatClampNeg)) : Met l yJ0_charAt_5068e (.code yJ0_charAt_5068e cJ0_charAt_5068e 2 (some .char) :: fd_tbl) (fd_r0 3 64) (fd_Ps ad adV B X [.ref (ad (1010 + i)), .int x]) (QcRead ((fd_txt.getD i []).getD x.toNatClampNeg 0)) 0 0 (fun _ => False) := by
  refine Met.ofW (cc := cJ0_charAt_5068e) (maxL := 2) (ret := some .char) (by decide) rfl ?_
  intro p e s m args below meth c s₁ Bd hml hv
  obtain ⟨rfl, hC⟩ := hv
  have hx := Bd.exec
  have hb := Bd.bytes
  have hr := Bd.returns
  have hts0 := atoms_spec (ws := .code yJ0_charAt_5068e cJ0_charAt_5068e 2 (some .char) :: fd_tbl) Bd.pre
  have hts : ∀ w ∈ fd_tbl, w.before _ s = true := fun w hw => hts0 w (List.mem_cons_of_mem _ hw)
  have hown : s.vm.findClass RJ0 = some m.cls := findClass_of_methodNamed Bd.named
  have hlocks := Bd.notSynchronized
  have hS : va_S (fun q => B ≤ q) s.heap s.heap [] := va_S.rf
  have hl := lv_entry ([.ref (ad (1010 + i)), .int x]) (n := 2) (Nat.le_of_ble_eq_true rfl)
  rw [lg_entry_eq]
  generalize (lg_sl ([.ref (ad (1010 + i)), .int x]) ++ List.replicate (2 - (lg_sl ([.ref (ad (1010 + i)), .int x])).length) Slot.unset).toArray = ls at hl ⊢
  have hl : lv_has ls 2 [(0, .ref (ad (1010 + i))), (1, .int x)] := hl
  obtain ⟨-, -, -, -, -, -, hK, -⟩ := id hC
  have hxl : x.toNatClampNeg < (fd_txt.getD i []).length := Nat.not_le.mp fun z => hin (Or.inr z)
  have hc2 := ((fd_txt_ok i hi).2.2 _ hxl).2
  refine lv_aload_n hx hb (show decode cJ0_charAt_5068e 0 = .ok (.aload_n 0, 1) by decide +kernel) rfl (lv_at hl 0 rfl) ?_
  refine W.callR (W.runV (As := []) (rest := []) (C := RJ0) (own := RJ0) ⟨hx, hb, hml, hown, hts⟩ (fd_c_latin l (ad := ad) (adV := adV) (B := B) (X := X) hi) ⟨callB_of 0 hts (fd_wsJ fd_jc_latin) rfl rfl rfl (hts _ (fd_in (by decide +kernel) rfl)) (hts _ (fd_in (w := .methodLink RJ0 492 yJ0_isLatin1_aae02) (by decide +kernel) rfl)) ⟨by decide, by decide, by decide +kernel⟩ ⟨Nat.le_of_ble_eq_true rfl, Nat.le_of_ble_eq_true rfl⟩, hts _ (fd_in (by decide +kernel) rfl), hts _ (fd_in (by decide +kernel) rfl)⟩ ⟨fd_Ps_blind, vk_recv hK hi hS, fun U hU hW => ⟨rfl, by rw [hU]; exact hC.warm hW⟩⟩ rfl rfl hl.1 rfl (lv_room (Nat.le_of_ble_eq_true rfl)) (show decode cJ0_charAt_5068e 1 = .ok (.invokevirtual 492, 3) by decide +kernel) ⟨Nat.zero_le _, Nat.zero_le _⟩) ?_
  refine W.eq (g2 := F0 m 4 ls [.int 1]) rfl ?_
  refine lv_if_eq (tgt := 16) hx hb (show decode cJ0_charAt_5068e 4 = .ok (.ifCond .eq 12, 3) by decide +kernel) (by decide) (fun z => absurd z (by decide)) (fun _ => ?_)
  refine lv_aload_n hx hb (show decode cJ0_charAt_5068e 7 = .ok (.aload_n 0, 1) by decide +kernel) rfl (lv_at hl 0 rfl) ?_
  refine vk_getf (own := RJ0) (ref := "java/lang/String") hx hb (hK.1 i hi).2.2.1 hS hown (hts _ (fd_in (by decide +kernel) rfl)) (fun _ h => h) (show decode cJ0_charAt_5068e 8 = .ok (.getfield 9, 3) by decide +kernel) ?_
  refine lv_iload_n hx hb (show decode cJ0_charAt_5068e 11 = .ok (.iload_n 1, 1) by decide +kernel) rfl (lv_at hl 1 rfl) ?_
  refine W.callR (W.runS (As := [.ref (adV i), .int x]) (rest := []) (own := RJ0) ⟨hx, hb, hml, hown, hts⟩ (fd_c_char1 l (ad := ad) (adV := adV) (B := B) (X := X) hi hin) ⟨callB_of 2 hts (fd_wsJ fd_jc_char1) rfl rfl rfl (hts _ (fd_in (by decide +kernel) rfl)) (hts _ (fd_in (w := .methodLink RJ0 495 yJ1_charAt_3b067) (by decide +kernel) rfl)) ⟨by decide, by decide, by decide +kernel⟩ ⟨Nat.le_of_ble_eq_true rfl, Nat.le_of_ble_eq_true rfl⟩, hts _ (fd_in (by decide +kernel) rfl)⟩ ⟨fd_Ps_blind, fun U hU hW => ⟨rfl, by rw [hU]; exact hC.warm hW⟩⟩ rfl rfl hl.1 rfl (lv_room (Nat.le_of_ble_eq_true rfl)) (show decode cJ0_charAt_5068e 12 = .ok (.invokestatic 495, 3) by decide +kernel) ⟨Nat.zero_le _, Nat.zero_le _⟩) ?_
  exact W.zret (ty := .char) hx hb hr hc2 (fun t ht _ => ⟨rfl, ht⟩) (fun _ h => by cases h) (show decode cJ0_charAt_5068e 15 = .ok (.ireturn, 1) by decide +kernel)
end STRS
