/-! EVERY INSTRUCTION -/
section STEP
variable {p : Program} {l : Launch} {e : Env} {R : Room} {s : State} {mm : MethodId} {args : Array Value} {below : List Frame} {meth : Method} {c : Code} {Q : State → Prop} {B : Nat} {ad adV : Nat → Nat} {D : va_G} {X : Nat × (Nat → Int32)} {m pc : Nat} {lo : fd_Lc} {st r : List Value} {cn : Nat × Nat} {k : fd_Sk} {h : fd_Hp}
theorem fd_mem_ix {α : Type} {l : List α} {x : α} (h : x ∈ l) : ∃ i : Nat, l[i]? = some x := List.getElem?_of_mem h
theorem fd_r_slen (cx : fd_Cx p e R s mm args meth c B ad adV D X m) {i i' cal na w b : Nat} (hd : decode (fd_code m) pc = .ok (.invokevirtual i, 3)) (hf : fd_lnk (fd_own m) i = some (i', 11, cal, na, w)) (hb1 : 1010 ≤ b) (hb2 : b < 1018) (hrl : r.length ≤ 4) (hrk : 3 ≤ fd_rk m) (kk : fd_K p l e R s mm args below meth c Q B ad D X m (pc + 3) lo (.int (nI (fd_txt.getD (b - 1010) []).length) :: r) cn k h) : fd_K p l e R s mm args below meth c Q B ad D X m pc lo (.ref b :: r) cn k h := by
  intro hX H locs ls hl hr hS g1 g2
  obtain ⟨hx, hb, hml, hown, hts, -, hR1, hR2, hRc, hRs, -, hC, had⟩ := cx
  obtain ⟨hm, he⟩ := fd_find hf
  dsimp only at he
  subst he
  have hw := fd_tb_lnk _ (fd_own_lt m) _ hm
  have hi : b - 1010 < 8 := by omega
  have hb3 : ad b = ad (1010 + (b - 1010)) := congrArg ad (by omega)
  have hK := hC.2.2.2.2.2.2.1
  have hrv := vk_recv hK hi hS
  have k1 := kk hX H locs ls hl hr hS g1 g2
  have hCH := hC.kept hS.2.1
  show W p l e R s mm args below meth c H locs cn.1 cn.2 Q (F0 mm pc ls (.ref (ad b) :: r.map (fd_cv ad)))
  rw [hb3]
  exact W.callR (W.runV (As := []) (rest := r.map (fd_cv ad)) (C := RJ0) (own := fd_cn (fd_own m)) ⟨hx, hb, hml, hown, hts⟩ (fd_c_length l (ad := ad) (adV := adV) (B := B) (X := X) hi) ⟨callB_of 0 hts (fd_wsJ fd_jc_length) rfl rfl rfl (hts _ (fd_in (by decide +kernel) rfl)) (hts _ (fd_tbl_in hw rfl)) ⟨by decide, by decide, by decide +kernel⟩ ⟨by show 1 + 1 ≤ _; omega, by show 8 + (1 + 11) + 20 ≤ _; omega⟩, hts _ (fd_in (by decide +kernel) rfl), hts _ (fd_in (by decide +kernel) rfl)⟩ ⟨fd_Ps_blind, hrv, fun U hU hW => ⟨rfl, by rw [hU]; exact hCH.warm hW⟩⟩ rfl rfl hl.2.1 rfl (lv_room (fd_catsum hrl)) hd ⟨by omega, by omega⟩) k1
theorem fd_r_schr (cx : fd_Cx p e R s mm args meth c B ad adV D X m) {i i' cal na w b : Nat} {x : Int32} (hd : decode (fd_code m) pc = .ok (.invokevirtual i, 3)) (hf : fd_lnk (fd_own m) i = some (i', 12, cal, na, w)) (hb1 : 1010 ≤ b) (hb2 : b < 1018) (hrl : r.length ≤ 4) (hrk : 5 ≤ fd_rk m) (hin : ¬ (x < 0 ∨ (fd_txt.getD (b - 1010) []).length ≤ x.toNatClampNeg)) (kk : fd_K p l e R s mm args below meth c Q B ad D X m (pc + 3) lo (.int ((fd_txt.getD (b - 1010) []).getD x.toNatClampNeg 0) :: r) cn k h) : fd_K p l e R s mm args below meth c Q B ad D X m pc lo (.int x :: .ref b :: r) cn k h := by
  intro hX H locs ls hl hr hS g1 g2
  obtain ⟨hx, hb, hml, hown, hts, -, hR1, hR2, hRc, hRs, -, hC, had⟩ := cx
  obtain ⟨hm, he⟩ := fd_find hf
  dsimp only at he
  subst he
  have hw := fd_tb_lnk _ (fd_own_lt m) _ hm
  have hi : b - 1010 < 8 := by omega
  have hb3 : ad b = ad (1010 + (b - 1010)) := congrArg ad (by omega)
  have hK := hC.2.2.2.2.2.2.1
  have hrv := vk_recv hK hi hS
  have k1 := kk hX H locs ls hl hr hS g1 g2
  have hCH := hC.kept hS.2.1
  show W p l e R s mm args below meth c H locs cn.1 cn.2 Q (F0 mm pc ls (.int x :: .ref (ad b) :: r.map (fd_cv ad)))
  rw [hb3]
  exact W.callR (W.runV (As := [.int x]) (rest := r.map (fd_cv ad)) (C := RJ0) (own := fd_cn (fd_own m)) ⟨hx, hb, hml, hown, hts⟩ (fd_c_charAt l (ad := ad) (adV := adV) (B := B) (X := X) hi hin) ⟨callB_of 1 hts (fd_wsJ fd_jc_charAt) rfl rfl rfl (hts _ (fd_in (by decide +kernel) rfl)) (hts _ (fd_tbl_in hw rfl)) ⟨by decide, by decide, by decide +kernel⟩ ⟨by show 3 + 1 ≤ _; omega, by show 8 + (2 + 11) + 64 ≤ _; omega⟩, hts _ (fd_in (by decide +kernel) rfl), hts _ (fd_in (by decide +kernel) rfl)⟩ ⟨fd_Ps_blind, hrv, fun U hU hW => ⟨rfl, by rw [hU]; exact hCH.warm hW⟩⟩ rfl rfl hl.2.1 rfl (lv_room (fd_catsum hrl)) hd ⟨by omega, by omega⟩) k1
theorem fd_r_math (cx : fd_Cx p e R s mm args meth c B ad adV D X m) {i i' kd cal na w : Nat} {x y : Int32} (hd : decode (fd_code m) pc = .ok (.invokestatic i, 3)) (hf : fd_lnk (fd_own m) i = some (i', kd, cal, na, w)) (hrl : r.length ≤ 4) (hrk : 1 ≤ fd_rk m) :
    (kd = 7 → fd_K p l e R s mm args below meth c Q B ad D X m (pc + 3) lo (.int (if y < x then y else x) :: r) cn k h → fd_K p l e R s mm args below meth c Q B ad D X m pc lo (.int y :: .int x :: r) cn k h) ∧ (kd = 8 → fd_K p l e R s mm args below meth c Q B ad D X m (pc + 3) lo (.int (if x < y then y else x) :: r) cn k h → fd_K p l e R s mm args below meth c Q B ad D X m pc lo (.int y :: .int x :: r) cn k h) ∧ (kd = 9 → fd_K p l e R s mm args below meth c Q B ad D X m (pc + 3) lo (.int (if 0 ≤ x then x else 0 - x) :: r) cn k h → fd_K p l e R s mm args below meth c Q B ad D X m pc lo (.int x :: r) cn k h) := by
  obtain ⟨hx, hb, hml, hown, hts, -, hR1, hR2, hRc, hRs, -, hC, had⟩ := cx
  obtain ⟨hm, he⟩ := fd_find hf
  dsimp only at he
  subst he
  have hw := fd_tb_lnk _ (fd_own_lt m) _ hm
  have hcs := fd_catsum (ad := ad) hrl
  have hini : (Cond.initialized "java/lang/Math").before args s = true := hts _ (fd_in (by decide +kernel) rfl)
  refine ⟨fun e kk => ?_, fun e kk => ?_, fun e kk => ?_⟩
  · subst e
    intro hX H locs ls hl hr hS g1 g2
    exact va_mmin hx hb (hml.trans hl.2.1.symm) hown (hts _ (fd_tbl_in hw rfl)) (hts _ (fd_in (by decide +kernel) rfl)) hini (hts _ (fd_in (by decide +kernel) rfl)) (by omega) (by omega) (by omega) (by omega) hd (kk hX H locs ls hl hr hS g1 g2)
  · subst e
    intro hX H locs ls hl hr hS g1 g2
    exact va_mmax hx hb (hml.trans hl.2.1.symm) hown (hts _ (fd_tbl_in hw rfl)) (hts _ (fd_in (by decide +kernel) rfl)) hini (hts _ (fd_in (by decide +kernel) rfl)) (by omega) (by omega) (by omega) (by omega) hd (kk hX H locs ls hl hr hS g1 g2)
  · subst e
    intro hX H locs ls hl hr hS g1 g2
    exact va_mabs hx hb (hml.trans hl.2.1.symm) hown (hts _ (fd_tbl_in hw rfl)) (hts _ (fd_in (by decide +kernel) rfl)) hini (hts _ (fd_in (by decide +kernel) rfl)) (by omega) (by omega) (by omega) (by omega) hd (kk hX H locs ls hl hr hS g1 g2)
theorem fd_r_obj (cx : fd_Cx p e R s mm args meth c B ad adV D X m) {i i' cal na w b : Nat} (hd : decode (fd_code m) pc = .ok (.invokespecial i, 3)) (hf : fd_lnk (fd_own m) i = some (i', 6, cal, na, w)) (hrl : r.length ≤ 4) (hrk : 1 ≤ fd_rk m) (kk : fd_K p l e R s mm args below meth c Q B ad D X m (pc + 3) lo r cn k h) : fd_K p l e R s mm args below meth c Q B ad D X m pc lo (.ref b :: r) cn k h := by
  obtain ⟨hx, hb, hml, hown, hts, -, hR1, hR2, hRc, hRs, -, hC, had⟩ := cx
  obtain ⟨hm, he⟩ := fd_find hf
  dsimp only at he
  subst he
  have hw := fd_tb_lnk _ (fd_own_lt m) _ hm
  have hcs := fd_catsum (ad := ad) hrl
  intro hX H locs ls hl hr hS g1 g2
  exact W.objInit (g := F0 mm pc ls (.ref (ad b) :: r.map (fd_cv ad))) hx hb hown (hts _ (fd_tbl_in hw rfl)) (hts _ (fd_in (by decide +kernel) rfl)) (hts _ (fd_in (by decide +kernel) rfl)) rfl (hl.2.1.trans hml.symm) rfl hd (by omega) (by show 2 * 0 + _ + 12 ≤ _; omega) (kk hX H locs ls hl hr hS g1 g2)
theorem fd_r_gst (cx : fd_Cx p e R s mm args meth c B ad adV D X m) {i : Nat} {q : Nat × Nat × Nat} (hd : decode (fd_code m) pc = .ok (.getstatic i, 3)) (hf : fd_gst (fd_own m) i = some q) (kk : fd_K p l e R s mm args below meth c Q B ad D X m (pc + 3) lo (.ref q.2.1 :: st) cn k h) : fd_K p l e R s mm args below meth c Q B ad D X m pc lo st cn k h := by
  obtain ⟨hx, hb, hml, hown, hts, -, hR1, hR2, hRc, hRs, -, hC, had⟩ := cx
  obtain ⟨i', p0, w⟩ := q
  obtain ⟨hm, he⟩ := fd_find hf
  dsimp only at he kk
  subst he
  intro hX H locs ls hl hr hS g1 g2
  have k1 := kk hX H locs ls hl hr hS g1 g2
  rcases fd_tb_gst _ (fd_own_lt m) _ hm with ⟨e, hw⟩ | ⟨e, hw⟩ | ⟨e, hw⟩ <;> dsimp only at e hw <;> subst e
  · exact va_gets hx hb hC.1.1 hS hown (hts _ (fd_tbl_in hw rfl)) (fun _ h => h) hd k1
  · exact va_gets hx hb hC.2.1.1 hS hown (hts _ (fd_tbl_in hw rfl)) (fun _ h => h) hd k1
  · exact va_gets hx hb hC.2.2.1.1 hS hown (hts _ (fd_tbl_in hw rfl)) (fun _ h => h) hd k1
theorem fd_r_ldc (cx : fd_Cx p e R s mm args meth c B ad adV D X m) {i : Nat} {q : Nat × Value × Nat} (hd : decode (fd_code m) pc = .ok (.ldc i, 2)) (hf : fd_con (fd_own m) i = some q) (kk : fd_K p l e R s mm args below meth c Q B ad D X m (pc + 2) lo (q.2.1 :: st) cn k h) : fd_K p l e R s mm args below meth c Q B ad D X m pc lo st cn k h := by
  obtain ⟨hx, hb, hml, hown, hts, -, hR1, hR2, hRc, hRs, -, hC, had⟩ := cx
  obtain ⟨i', v, w⟩ := q
  obtain ⟨hm, he⟩ := fd_find hf
  dsimp only at he kk
  subst he
  intro hX H locs ls hl hr hS g1 g2
  have k1 := kk hX H locs ls hl hr hS g1 g2
  have hw := fd_tb_con _ (fd_own_lt m) _ hm
  unfold fd_cword at hw
  dsimp only at hw
  split at hw
  · rename_i v
    exact lv_ldc hx hb hown (hts _ (fd_tbl_in hw rfl)) hd k1
  · rename_i b
    obtain ⟨e1, e2, e3, e4⟩ := hw
    have e2 : (1010 : Nat) ≤ (b : Nat) := e2
    have e3 : (b : Nat) < (1018 : Nat) := e3
    have e5 : ∀ z : Nat, 1010 ≤ z → z < 1018 → z - 1010 < 8 := fun z h1 h2 => by omega
    have hb3 : ad b = ad (1010 + (b - 1010)) := congrArg ad (by omega)
    have hR := hC.2.2.2.2.2.2.2.1 (b - 1010) (e5 b e2 e3)
    rw [e4, ← hb3] at hR
    rw [e1] at hown
    exact va_ldcS hx hb hown hR hd k1
  · exact hw.elim
theorem fd_br_if {b : Bool} {t : Nat} (kk : fd_K p l e R s mm args below meth c Q B ad D X m (if b then t else pc + 3) lo r cn k h) : (b = true → fd_K p l e R s mm args below meth c Q B ad D X m t lo r cn k h) ∧ (b = false → fd_K p l e R s mm args below meth c Q B ad D X m (pc + 3) lo r cn k h) := by
  refine ⟨fun e => ?_, fun e => ?_⟩
  · rw [if_pos e] at kk; exact kk
  · rw [if_neg (by rw [e]; decide)] at kk; exact kk
theorem fd_r_if (cx : fd_Cx p e R s mm args meth c B ad adV D X m) {cc : Jvm.ClassFile.Cond} {x : Int32} {off : Int} {t : Nat} (hd : decode (fd_code m) pc = .ok (.ifCond cc off, 3)) (ht : (pc : Int) + off = (t : Int)) (kk : fd_K p l e R s mm args below meth c Q B ad D X m (if fd_icP cc x 0 then t else pc + 3) lo r cn k h) : fd_K p l e R s mm args below meth c Q B ad D X m pc lo (.int x :: r) cn k h := by
  obtain ⟨hx, hb, -⟩ := cx
  obtain ⟨kt, kf⟩ := fd_br_if kk
  intro hX H locs ls hl hr hS g1 g2
  cases cc
  · exact lv_if_eq hx hb hd ht (fun e => kt (by simp [fd_icP, e]) hX H locs ls hl hr hS g1 g2) (fun e => kf (by simp [fd_icP, e]) hX H locs ls hl hr hS g1 g2)
  · exact lv_if_ne hx hb hd ht (fun e => kt (by simp [fd_icP, e]) hX H locs ls hl hr hS g1 g2) (fun e => kf (by simp [fd_icP, e]) hX H locs ls hl hr hS g1 g2)
  · exact lv_if_lt hx hb hd ht (fun e => kt (by simp [fd_icP, e]) hX H locs ls hl hr hS g1 g2) (fun e => kf (by simp [fd_icP, e]) hX H locs ls hl hr hS g1 g2)
  · exact lv_if_ge hx hb hd ht (fun e => kt (by simp [fd_icP, e]) hX H locs ls hl hr hS g1 g2) (fun e => kf (by simp [fd_icP, e]) hX H locs ls hl hr hS g1 g2)
  · exact lv_if_gt hx hb hd ht (fun e => kt (by simp [fd_icP, e]) hX H locs ls hl hr hS g1 g2) (fun e => kf (by simp [fd_icP, e]) hX H locs ls hl hr hS g1 g2)
  · exact lv_if_le hx hb hd ht (fun e => kt (by simp [fd_icP, e]) hX H locs ls hl hr hS g1 g2) (fun e => kf (by simp [fd_icP, e]) hX H locs ls hl hr hS g1 g2)
theorem fd_r_icmp (cx : fd_Cx p e R s mm args meth c B ad adV D X m) {cc : Jvm.ClassFile.Cond} {x y : Int32} {off : Int} {t : Nat} (hd : decode (fd_code m) pc = .ok (.if_icmp cc off, 3)) (ht : (pc : Int) + off = (t : Int)) (kk : fd_K p l e R s mm args below meth c Q B ad D X m (if fd_icP cc x y then t else pc + 3) lo r cn k h) : fd_K p l e R s mm args below meth c Q B ad D X m pc lo (.int y :: .int x :: r) cn k h := by
  obtain ⟨hx, hb, -⟩ := cx
  obtain ⟨kt, kf⟩ := fd_br_if kk
  intro hX H locs ls hl hr hS g1 g2
  cases cc
  · exact lv_icmp_eq hx hb hd ht (fun e => kt (by simp [fd_icP, e]) hX H locs ls hl hr hS g1 g2) (fun e => kf (by simp [fd_icP, e]) hX H locs ls hl hr hS g1 g2)
  · exact lv_icmp_ne hx hb hd ht (fun e => kt (by simp [fd_icP, e]) hX H locs ls hl hr hS g1 g2) (fun e => kf (by simp [fd_icP, e]) hX H locs ls hl hr hS g1 g2)
  · exact lv_icmp_lt hx hb hd ht (fun e => kt (by simp [fd_icP, e]) hX H locs ls hl hr hS g1 g2) (fun e => kf (by simp [fd_icP, e]) hX H locs ls hl hr hS g1 g2)
  · exact lv_icmp_ge hx hb hd ht (fun e => kt (by simp [fd_icP, e]) hX H locs ls hl hr hS g1 g2) (fun e => kf (by simp [fd_icP, e]) hX H locs ls hl hr hS g1 g2)
  · exact lv_icmp_gt hx hb hd ht (fun e => kt (by simp [fd_icP, e]) hX H locs ls hl hr hS g1 g2) (fun e => kf (by simp [fd_icP, e]) hX H locs ls hl hr hS g1 g2)
  · exact lv_icmp_le hx hb hd ht (fun e => kt (by simp [fd_icP, e]) hX H locs ls hl hr hS g1 g2) (fun e => kf (by simp [fd_icP, e]) hX H locs ls hl hr hS g1 g2)
theorem fd_r_swt (cx : fd_Cx p e R s mm args meth c B ad adV D X m) {a : fd_Act} {d lw hi : Int} {offs : Array Int} {len : Nat} (hd : decode (fd_code m) pc = .ok (.tableswitch d lw hi offs, len)) (hn : fd_swt m pc lo st cn k h d lw hi offs = some a) (hgo : ∀ f', a = .inr (.inl f') → fd_KF p l e R s mm args below meth c Q B ad D X (f')) : fd_K p l e R s mm args below meth c Q B ad D X m pc lo st cn k h := by
  obtain ⟨hx, hb, -⟩ := cx
  unfold fd_swt at hn
  split at hn
  · rename_i x r
    split at hn
    · rename_i hc
      obtain ⟨t, e1, e2⟩ := Option.bind_eq_some_iff.mp hn
      have kk : fd_K p l e R s mm args below meth c Q B ad D X m t lo r cn k h := hgo _ (fd_go_inv e2)
      intro hX H locs ls hl hr hS g1 g2
      exact lv_tableOut hx hb hd hc (fd_jmp_to e1) (kk hX H locs ls hl hr hS g1 g2)
    · rename_i hc
      split at hn
      · rename_i off ho
        obtain ⟨t, e1, e2⟩ := Option.bind_eq_some_iff.mp hn
        have kk : fd_K p l e R s mm args below meth c Q B ad D X m t lo r cn k h := hgo _ (fd_go_inv e2)
        intro hX H locs ls hl hr hS g1 g2
        exact lv_tableIn hx hb hd (fun z => hc (Or.inl z)) (fun z => hc (Or.inr z)) ho (fd_jmp_to e1) (kk hX H locs ls hl hr hS g1 g2)
      · cases hn
  · cases hn
set_option maxHeartbeats 4000000 in
theorem fd_snd (cx : fd_Cx p e R s mm args meth c B ad adV D X m) {i : Instr} {len : Nat} {a : fd_Act} (hd : decode (fd_code m) pc = .ok (i, len)) (hn : fd_nx m pc lo st cn k h i len = some a)
    (hgo : ∀ f', a = .inr (.inl f') → fd_KF p l e R s mm args below meth c Q B ad D X (f'))
    (hcall : ∀ cal as q, a = .inr (.inr ((cal, 0, fd_ent as (fd_ml cal), [], (0, 0), (k, h)), q)) → cal < 201 → (fd_ent as 0).length ≤ fd_ml cal → k.2 = X → ∃ rv k1 h1, fd_MT l B ad adV D X cal as k h rv k1 h1 ∧ k1.2 = k.2 ∧ fd_KF p l e R s mm args below meth c Q B ad D X (q (rv, (k1, h1))))
    (hrt : ∀ rv k' h', a = .inl (rv, (k', h')) → fd_End p l e R s mm args below meth c Q B ad D m rv k' h') : fd_K p l e R s mm args below meth c Q B ad D X m pc lo st cn k h := by
  obtain ⟨hx, hb, hml, hown, hts, -, hR1, hR2, hRc, hRs, -, hC, had⟩ := id cx
  cases i
  case iconst n =>
    dsimp only [fd_nx] at hn
    have hq0 := fd_if hn
    clear hn
    obtain ⟨rfl, hn⟩ := hq0
    have kk : fd_K p l e R s mm args below meth c Q B ad D X m (pc + 1) lo (.int (Int32.ofInt n) :: st) cn k h := hgo _ (fd_go_inv hn)
    exact fun hX H locs ls hl hr hS g1 g2 => lv_iconst hx hb hd rfl (kk hX H locs ls hl hr hS g1 g2)
  case bipush n =>
    dsimp only [fd_nx] at hn
    have hq0 := fd_if hn
    clear hn
    obtain ⟨rfl, hn⟩ := hq0
    have kk : fd_K p l e R s mm args below meth c Q B ad D X m (pc + 2) lo (.int (Int8.ofInt n).toInt32 :: st) cn k h := hgo _ (fd_go_inv hn)
    exact fun hX H locs ls hl hr hS g1 g2 => lv_bipush hx hb hd rfl (kk hX H locs ls hl hr hS g1 g2)
  case sipush n =>
    dsimp only [fd_nx] at hn
    have hq0 := fd_if hn
    clear hn
    obtain ⟨rfl, hn⟩ := hq0
    have kk : fd_K p l e R s mm args below meth c Q B ad D X m (pc + 3) lo (.int (Int16.ofInt n).toInt32 :: st) cn k h := hgo _ (fd_go_inv hn)
    exact fun hX H locs ls hl hr hS g1 g2 => lv_sipush hx hb hd rfl (kk hX H locs ls hl hr hS g1 g2)
  case lconst n =>
    dsimp only [fd_nx] at hn
    have hq0 := fd_if hn
    clear hn
    obtain ⟨rfl, hn⟩ := hq0
    have kk : fd_K p l e R s mm args below meth c Q B ad D X m (pc + 1) lo (.long (Int64.ofNat (n : Nat)) :: st) cn k h := hgo _ (fd_go_inv hn)
    exact fun hX H locs ls hl hr hS g1 g2 => lv_lconst hx hb hd rfl (kk hX H locs ls hl hr hS g1 g2)
  case ldc i =>
    dsimp only [fd_nx] at hn
    have hq0 := fd_if hn
    clear hn
    obtain ⟨rfl, hn⟩ := hq0
    obtain ⟨q, e1, e2⟩ := Option.bind_eq_some_iff.mp hn
    exact fd_r_ldc cx hd e1 (hgo _ (fd_go_inv e2))
  case ldc_w i =>
    dsimp only [fd_nx] at hn
    have hq0 := fd_if hn
    clear hn
    obtain ⟨rfl, hn⟩ := hq0
    split at hn
    · rename_i i' v w e1
      obtain ⟨hm, he⟩ := fd_find e1
      dsimp only at he
      subst he
      have hw := fd_tb_con _ (fd_own_lt m) _ hm
      have hw : lw_tbl[w]? = some (.constant (fd_cn (fd_own m)) i' v) := hw
      have kk : fd_K p l e R s mm args below meth c Q B ad D X m (pc + 3) lo (.int v :: st) cn k h := hgo _ (fd_go_inv hn)
      exact fun hX H locs ls hl hr hS g1 g2 => lv_ldcw hx hb hown (hts _ (fd_tbl_in hw rfl)) hd (kk hX H locs ls hl hr hS g1 g2)
    · cases hn
  case ldc2_w i =>
    dsimp only [fd_nx] at hn
    have hq0 := fd_if hn
    clear hn
    obtain ⟨rfl, hn⟩ := hq0
    obtain ⟨⟨i', v, w⟩, e1, e2⟩ := Option.bind_eq_some_iff.mp hn
    obtain ⟨hm, he⟩ := fd_find e1
    dsimp only at he
    subst he
    have hw := fd_tb_con2 _ (fd_own_lt m) _ hm
    have kk : fd_K p l e R s mm args below meth c Q B ad D X m (pc + 3) lo (.long v :: st) cn k h := hgo _ (fd_go_inv e2)
    exact fun hX H locs ls hl hr hS g1 g2 => lv_ldc2 hx hb hown (hts _ (fd_tbl_in hw rfl)) hd (kk hX H locs ls hl hr hS g1 g2)
  case iload_n n =>
    dsimp only [fd_nx] at hn
    have hq0 := fd_if hn
    clear hn
    obtain ⟨rfl, hn⟩ := hq0
    obtain ⟨x, e1, e2⟩ := fd_li_inv hn
    have kk : fd_K p l e R s mm args below meth c Q B ad D X m (pc + 1) lo (.int x :: st) cn k h := hgo _ e2
    exact fun hX H locs ls hl hr hS g1 g2 => lv_iload_n hx hb hd rfl (hl.2.2.2 _ _ e1) (kk hX H locs ls hl hr hS g1 g2)
  case iload n =>
    dsimp only [fd_nx] at hn
    have hq0 := fd_if hn
    clear hn
    obtain ⟨rfl, hn⟩ := hq0
    obtain ⟨x, e1, e2⟩ := fd_li_inv hn
    have kk : fd_K p l e R s mm args below meth c Q B ad D X m (pc + 2) lo (.int x :: st) cn k h := hgo _ e2
    exact fun hX H locs ls hl hr hS g1 g2 => lv_iload hx hb hd (hl.2.2.2 _ _ e1) (kk hX H locs ls hl hr hS g1 g2)
  case aload_n n =>
    dsimp only [fd_nx] at hn
    have hq0 := fd_if hn
    clear hn
    obtain ⟨rfl, hn⟩ := hq0
    obtain ⟨x, e1, e2⟩ := fd_la_inv hn
    have kk : fd_K p l e R s mm args below meth c Q B ad D X m (pc + 1) lo (.ref x :: st) cn k h := hgo _ e2
    exact fun hX H locs ls hl hr hS g1 g2 => lv_aload_n hx hb hd rfl (hl.2.2.2 _ _ e1) (kk hX H locs ls hl hr hS g1 g2)
  case aload n =>
    dsimp only [fd_nx] at hn
    have hq0 := fd_if hn
    clear hn
    obtain ⟨rfl, hn⟩ := hq0
    obtain ⟨x, e1, e2⟩ := fd_la_inv hn
    have kk : fd_K p l e R s mm args below meth c Q B ad D X m (pc + 2) lo (.ref x :: st) cn k h := hgo _ e2
    exact fun hX H locs ls hl hr hS g1 g2 => lv_aload hx hb hd (hl.2.2.2 _ _ e1) (kk hX H locs ls hl hr hS g1 g2)
  case lload_n n =>
    dsimp only [fd_nx] at hn
    have hq0 := fd_if hn
    clear hn
    obtain ⟨rfl, hn⟩ := hq0
    split at hn
    · rename_i x e1
      have kk : fd_K p l e R s mm args below meth c Q B ad D X m (pc + 1) lo (.long x :: st) cn k h := hgo _ (fd_go_inv hn)
      exact fun hX H locs ls hl hr hS g1 g2 => lv_lload_n hx hb hd rfl (hl.2.2.2 _ _ e1) (kk hX H locs ls hl hr hS g1 g2)
    · cases hn
  case istore_n n =>
    dsimp only [fd_nx] at hn
    have hq0 := fd_if hn
    clear hn
    obtain ⟨rfl, hn⟩ := hq0
    obtain ⟨x, r, lo', rfl, e1, e2⟩ := fd_si_inv hn
    have kk : fd_K p l e R s mm args below meth c Q B ad D X m (pc + 1) lo' r cn k h := hgo _ e2
    exact fun hX H locs ls hl hr hS g1 g2 => lv_istore_n hx hb hd rfl hl.has (hl.lt e1) rfl (fun ls' h' => kk hX H locs ls' (hl.store e1 h') hr hS g1 g2)
  case istore n =>
    dsimp only [fd_nx] at hn
    have hq0 := fd_if hn
    clear hn
    obtain ⟨rfl, hn⟩ := hq0
    obtain ⟨x, r, lo', rfl, e1, e2⟩ := fd_si_inv hn
    have kk : fd_K p l e R s mm args below meth c Q B ad D X m (pc + 2) lo' r cn k h := hgo _ e2
    exact fun hX H locs ls hl hr hS g1 g2 => lv_istore hx hb hd hl.has (hl.lt e1) rfl (fun ls' h' => kk hX H locs ls' (hl.store e1 h') hr hS g1 g2)
  case astore_n n =>
    dsimp only [fd_nx] at hn
    have hq0 := fd_if hn
    clear hn
    obtain ⟨rfl, hn⟩ := hq0
    obtain ⟨x, r, lo', rfl, e1, e2⟩ := fd_sa_inv hn
    have kk : fd_K p l e R s mm args below meth c Q B ad D X m (pc + 1) lo' r cn k h := hgo _ e2
    exact fun hX H locs ls hl hr hS g1 g2 => lv_astore_n hx hb hd rfl hl.has (hl.lt e1) rfl (fun ls' h' => kk hX H locs ls' (hl.store e1 h') hr hS g1 g2)
  case astore n =>
    dsimp only [fd_nx] at hn
    have hq0 := fd_if hn
    clear hn
    obtain ⟨rfl, hn⟩ := hq0
    obtain ⟨x, r, lo', rfl, e1, e2⟩ := fd_sa_inv hn
    have kk : fd_K p l e R s mm args below meth c Q B ad D X m (pc + 2) lo' r cn k h := hgo _ e2
    exact fun hX H locs ls hl hr hS g1 g2 => lv_astore hx hb hd hl.has (hl.lt e1) rfl (fun ls' h' => kk hX H locs ls' (hl.store e1 h') hr hS g1 g2)
  case iinc i n =>
    dsimp only [fd_nx] at hn
    have hq0 := fd_if hn
    clear hn
    obtain ⟨rfl, hn⟩ := hq0
    split at hn
    · rename_i x e1
      obtain ⟨lo', e2, e3⟩ := Option.bind_eq_some_iff.mp hn
      have kk : fd_K p l e R s mm args below meth c Q B ad D X m (pc + 3) lo' st cn k h := hgo _ (fd_go_inv e3)
      intro hX H locs ls hl hr hS g1 g2
      obtain ⟨j, hj⟩ := fd_mem_ix (fd_lvl_mem (ad := ad) (q := (i, .int x)).mpr ⟨_, e1, rfl⟩)
      exact lv_iinc hx hb hd hl.has hj rfl (hl.lt e2) rfl (fun ls' h' => kk hX H locs ls' (hl.store e2 h') hr hS g1 g2)
    · cases hn
  case iadd =>
    dsimp only [fd_nx] at hn
    have hq0 := fd_if hn
    clear hn
    obtain ⟨rfl, hn⟩ := hq0
    obtain ⟨x, y, z, r, rfl, e1, e2⟩ := fd_ii_inv hn
    cases e1
    exact fun hX H locs ls hl hr hS g1 g2 => lv_iadd hx hb hd (hgo _ e2 hX H locs ls hl hr hS g1 g2)
  case isub =>
    dsimp only [fd_nx] at hn
    have hq0 := fd_if hn
    clear hn
    obtain ⟨rfl, hn⟩ := hq0
    obtain ⟨x, y, z, r, rfl, e1, e2⟩ := fd_ii_inv hn
    cases e1
    exact fun hX H locs ls hl hr hS g1 g2 => lv_isub hx hb hd (hgo _ e2 hX H locs ls hl hr hS g1 g2)
  case imul =>
    dsimp only [fd_nx] at hn
    have hq0 := fd_if hn
    clear hn
    obtain ⟨rfl, hn⟩ := hq0
    obtain ⟨x, y, z, r, rfl, e1, e2⟩ := fd_ii_inv hn
    cases e1
    exact fun hX H locs ls hl hr hS g1 g2 => lv_imul hx hb hd (hgo _ e2 hX H locs ls hl hr hS g1 g2)
  case iand =>
    dsimp only [fd_nx] at hn
    have hq0 := fd_if hn
    clear hn
    obtain ⟨rfl, hn⟩ := hq0
    obtain ⟨x, y, z, r, rfl, e1, e2⟩ := fd_ii_inv hn
    cases e1
    exact fun hX H locs ls hl hr hS g1 g2 => lv_iand hx hb hd (hgo _ e2 hX H locs ls hl hr hS g1 g2)
  case ior =>
    dsimp only [fd_nx] at hn
    have hq0 := fd_if hn
    clear hn
    obtain ⟨rfl, hn⟩ := hq0
    obtain ⟨x, y, z, r, rfl, e1, e2⟩ := fd_ii_inv hn
    cases e1
    exact fun hX H locs ls hl hr hS g1 g2 => lv_ior hx hb hd (hgo _ e2 hX H locs ls hl hr hS g1 g2)
  case ixor =>
    dsimp only [fd_nx] at hn
    have hq0 := fd_if hn
    clear hn
    obtain ⟨rfl, hn⟩ := hq0
    obtain ⟨x, y, z, r, rfl, e1, e2⟩ := fd_ii_inv hn
    cases e1
    exact fun hX H locs ls hl hr hS g1 g2 => lv_ixor hx hb hd (hgo _ e2 hX H locs ls hl hr hS g1 g2)
  case ishl =>
    dsimp only [fd_nx] at hn
    have hq0 := fd_if hn
    clear hn
    obtain ⟨rfl, hn⟩ := hq0
    obtain ⟨x, y, z, r, rfl, e1, e2⟩ := fd_ii_inv hn
    cases e1
    exact fun hX H locs ls hl hr hS g1 g2 => lv_ishl hx hb hd (hgo _ e2 hX H locs ls hl hr hS g1 g2)
  case ishr =>
    dsimp only [fd_nx] at hn
    have hq0 := fd_if hn
    clear hn
    obtain ⟨rfl, hn⟩ := hq0
    obtain ⟨x, y, z, r, rfl, e1, e2⟩ := fd_ii_inv hn
    cases e1
    exact fun hX H locs ls hl hr hS g1 g2 => lv_ishr hx hb hd (hgo _ e2 hX H locs ls hl hr hS g1 g2)
  case iushr =>
    dsimp only [fd_nx] at hn
    have hq0 := fd_if hn
    clear hn
    obtain ⟨rfl, hn⟩ := hq0
    obtain ⟨x, y, z, r, rfl, e1, e2⟩ := fd_ii_inv hn
    cases e1
    exact fun hX H locs ls hl hr hS g1 g2 => lv_iushr hx hb hd rfl (hgo _ e2 hX H locs ls hl hr hS g1 g2)
  case idiv =>
    dsimp only [fd_nx] at hn
    have hq0 := fd_if hn
    clear hn
    obtain ⟨rfl, hn⟩ := hq0
    obtain ⟨x, y, z, r, rfl, e1, e2⟩ := fd_ii_inv hn
    split at e1
    · cases e1
    · rename_i hne
      cases e1
      exact fun hX H locs ls hl hr hS g1 g2 => lv_idiv hx hb hd hne (hgo _ e2 hX H locs ls hl hr hS g1 g2)
  case irem =>
    dsimp only [fd_nx] at hn
    have hq0 := fd_if hn
    clear hn
    obtain ⟨rfl, hn⟩ := hq0
    obtain ⟨x, y, z, r, rfl, e1, e2⟩ := fd_ii_inv hn
    split at e1
    · cases e1
    · rename_i hne
      cases e1
      exact fun hX H locs ls hl hr hS g1 g2 => lv_irem hx hb hd hne (hgo _ e2 hX H locs ls hl hr hS g1 g2)
  case ineg =>
    dsimp only [fd_nx] at hn
    have hq0 := fd_if hn
    clear hn
    obtain ⟨rfl, hn⟩ := hq0
    split at hn
    · exact fun hX H locs ls hl hr hS g1 g2 => lv_ineg hx hb hd (hgo _ (fd_go_inv hn) hX H locs ls hl hr hS g1 g2)
    · cases hn
  case ladd =>
    dsimp only [fd_nx] at hn
    have hq0 := fd_if hn
    clear hn
    obtain ⟨rfl, hn⟩ := hq0
    obtain ⟨x, y, r, rfl, e2⟩ := fd_ll_inv hn
    exact fun hX H locs ls hl hr hS g1 g2 => lv_ladd hx hb hd (hgo _ e2 hX H locs ls hl hr hS g1 g2)
  case lsub =>
    dsimp only [fd_nx] at hn
    have hq0 := fd_if hn
    clear hn
    obtain ⟨rfl, hn⟩ := hq0
    obtain ⟨x, y, r, rfl, e2⟩ := fd_ll_inv hn
    exact fun hX H locs ls hl hr hS g1 g2 => lv_lsub hx hb hd (hgo _ e2 hX H locs ls hl hr hS g1 g2)
  case lmul =>
    dsimp only [fd_nx] at hn
    have hq0 := fd_if hn
    clear hn
    obtain ⟨rfl, hn⟩ := hq0
    obtain ⟨x, y, r, rfl, e2⟩ := fd_ll_inv hn
    exact fun hX H locs ls hl hr hS g1 g2 => lv_lmul hx hb hd (hgo _ e2 hX H locs ls hl hr hS g1 g2)
  case land =>
    dsimp only [fd_nx] at hn
    have hq0 := fd_if hn
    clear hn
    obtain ⟨rfl, hn⟩ := hq0
    obtain ⟨x, y, r, rfl, e2⟩ := fd_ll_inv hn
    exact fun hX H locs ls hl hr hS g1 g2 => lv_land hx hb hd (hgo _ e2 hX H locs ls hl hr hS g1 g2)
  case lor =>
    dsimp only [fd_nx] at hn
    have hq0 := fd_if hn
    clear hn
    obtain ⟨rfl, hn⟩ := hq0
    obtain ⟨x, y, r, rfl, e2⟩ := fd_ll_inv hn
    exact fun hX H locs ls hl hr hS g1 g2 => lv_lor hx hb hd (hgo _ e2 hX H locs ls hl hr hS g1 g2)
  case lcmp =>
    dsimp only [fd_nx] at hn
    have hq0 := fd_if hn
    clear hn
    obtain ⟨rfl, hn⟩ := hq0
    split at hn
    · exact fun hX H locs ls hl hr hS g1 g2 => W.lcmp hx hb hd (hgo _ (fd_go_inv hn) hX H locs ls hl hr hS g1 g2)
    · cases hn
  case lshl =>
    dsimp only [fd_nx] at hn
    have hq0 := fd_if hn
    clear hn
    obtain ⟨rfl, hn⟩ := hq0
    split at hn
    · exact fun hX H locs ls hl hr hS g1 g2 => lv_lshl hx hb hd rfl (hgo _ (fd_go_inv hn) hX H locs ls hl hr hS g1 g2)
    · cases hn
  case lshr =>
    dsimp only [fd_nx] at hn
    have hq0 := fd_if hn
    clear hn
    obtain ⟨rfl, hn⟩ := hq0
    split at hn
    · exact fun hX H locs ls hl hr hS g1 g2 => lv_lshr hx hb hd rfl (hgo _ (fd_go_inv hn) hX H locs ls hl hr hS g1 g2)
    · cases hn
  case i2l =>
    dsimp only [fd_nx] at hn
    have hq0 := fd_if hn
    clear hn
    obtain ⟨rfl, hn⟩ := hq0
    split at hn
    · exact fun hX H locs ls hl hr hS g1 g2 => lv_i2l hx hb hd rfl (hgo _ (fd_go_inv hn) hX H locs ls hl hr hS g1 g2)
    · cases hn
  case l2i =>
    dsimp only [fd_nx] at hn
    have hq0 := fd_if hn
    clear hn
    obtain ⟨rfl, hn⟩ := hq0
    split at hn
    · exact fun hX H locs ls hl hr hS g1 g2 => lv_l2i hx hb hd rfl (hgo _ (fd_go_inv hn) hX H locs ls hl hr hS g1 g2)
    · cases hn
  case dup =>
    dsimp only [fd_nx] at hn
    have hq0 := fd_if hn
    clear hn
    obtain ⟨rfl, hn⟩ := hq0
    split at hn
    · obtain ⟨hc, hn⟩ := fd_if hn
      exact fun hX H locs ls hl hr hS g1 g2 => lv_dup hx hb hd (by rw [fd_cv_cat]; exact hc) (hgo _ (fd_go_inv hn) hX H locs ls hl hr hS g1 g2)
    · cases hn
  case pop =>
    dsimp only [fd_nx] at hn
    have hq0 := fd_if hn
    clear hn
    obtain ⟨rfl, hn⟩ := hq0
    split at hn
    · obtain ⟨hc, hn⟩ := fd_if hn
      exact fun hX H locs ls hl hr hS g1 g2 => lv_pop hx hb hd (by rw [fd_cv_cat]; exact hc) (hgo _ (fd_go_inv hn) hX H locs ls hl hr hS g1 g2)
    · cases hn
  case dup2 =>
    dsimp only [fd_nx] at hn
    have hq0 := fd_if hn
    clear hn
    obtain ⟨rfl, hn⟩ := hq0
    split at hn
    · obtain ⟨hc, hn⟩ := fd_if hn
      exact fun hX H locs ls hl hr hS g1 g2 => lv_dup2_11 hx hb hd (by rw [fd_cv_cat]; exact hc.1) (by rw [fd_cv_cat]; exact hc.2) (hgo _ (fd_go_inv hn) hX H locs ls hl hr hS g1 g2)
    · cases hn
  case dup_x1 =>
    dsimp only [fd_nx] at hn
    have hq0 := fd_if hn
    clear hn
    obtain ⟨rfl, hn⟩ := hq0
    split at hn
    · obtain ⟨hc, hn⟩ := fd_if hn
      exact fun hX H locs ls hl hr hS g1 g2 => lv_dup_x1 hx hb hd (by rw [fd_cv_cat]; exact hc.1) (by rw [fd_cv_cat]; exact hc.2) (hgo _ (fd_go_inv hn) hX H locs ls hl hr hS g1 g2)
    · cases hn
  case ifCond cc off =>
    dsimp only [fd_nx] at hn
    have hq0 := fd_if hn
    clear hn
    obtain ⟨rfl, hn⟩ := hq0
    split at hn
    · obtain ⟨t, e1, e2⟩ := fd_br_inv hn
      exact fd_r_if cx hd e1 (hgo _ e2)
    · cases hn
  case if_icmp cc off =>
    dsimp only [fd_nx] at hn
    have hq0 := fd_if hn
    clear hn
    obtain ⟨rfl, hn⟩ := hq0
    split at hn
    · obtain ⟨t, e1, e2⟩ := fd_br_inv hn
      exact fd_r_icmp cx hd e1 (hgo _ e2)
    · cases hn
  case goto off =>
    dsimp only [fd_nx] at hn
    have hq0 := fd_if hn
    clear hn
    obtain ⟨rfl, hn⟩ := hq0
    obtain ⟨t, e1, e2⟩ := Option.bind_eq_some_iff.mp hn
    exact fun hX H locs ls hl hr hS g1 g2 => lv_goto hx hb hd (fd_jmp_to e1) (hgo _ (fd_go_inv e2) hX H locs ls hl hr hS g1 g2)
  case tableswitch d lw hi offs =>
    dsimp only [fd_nx] at hn
    exact fd_r_swt cx hd hn hgo
  case getfield i =>
    dsimp only [fd_nx] at hn
    have hq0 := fd_if hn
    clear hn
    obtain ⟨rfl, hn⟩ := hq0
    unfold fd_get at hn
    split at hn
    · rename_i i' ci j wi p0 r e1
      obtain ⟨hc, hn⟩ := fd_if hn
      exact fd_r_get cx hd e1 hc (hgo _ (fd_go_inv hn))
    · cases hn
  case putfield i =>
    dsimp only [fd_nx] at hn
    have hq0 := fd_if hn
    clear hn
    obtain ⟨rfl, hn⟩ := hq0
    unfold fd_putf at hn
    split at hn
    · rename_i i' ci j wi v p0 r e1
      obtain ⟨hc, hn⟩ := fd_if hn
      obtain ⟨q, e2, e3⟩ := Option.bind_eq_some_iff.mp hn
      exact fd_r_put cx hd e1 hc.1 hc.2 e2 (hgo _ (fd_go_inv e3))
    · cases hn
  case getstatic i =>
    dsimp only [fd_nx] at hn
    have hq0 := fd_if hn
    clear hn
    obtain ⟨rfl, hn⟩ := hq0
    obtain ⟨q, e1, e2⟩ := Option.bind_eq_some_iff.mp hn
    exact fd_r_gst cx hd e1 (hgo _ (fd_go_inv e2))
  case iaload =>
    dsimp only [fd_nx] at hn
    have hq0 := fd_if hn
    clear hn
    obtain ⟨rfl, hn⟩ := hq0
    unfold fd_ald at hn
    split at hn
    · split at hn
      · rename_i e1
        obtain ⟨hc, hn⟩ := fd_if hn
        exact fd_r_iald cx hd e1 hc (hgo _ (fd_go_inv hn))
      · cases hn
      · split at hn
        · rename_i e1
          obtain ⟨hc, hn⟩ := fd_if hn
          exact fd_r_iold cx hd e1 hc (hgo _ (fd_go_inv hn))
        · cases hn
    · cases hn
  case iastore =>
    dsimp only [fd_nx] at hn
    have hq0 := fd_if hn
    clear hn
    obtain ⟨rfl, hn⟩ := hq0
    unfold fd_ast at hn
    split at hn
    · split at hn
      · rename_i e1
        obtain ⟨hc, hn⟩ := fd_if hn
        exact fd_r_iast cx hd e1 hc (hgo _ (fd_go_inv hn))
      · cases hn
    · cases hn
  case baload =>
    dsimp only [fd_nx] at hn
    have hq0 := fd_if hn
    clear hn
    obtain ⟨rfl, hn⟩ := hq0
    unfold fd_zld at hn
    split at hn
    · split at hn
      · rename_i e1
        obtain ⟨hc, hn⟩ := fd_if hn
        exact fd_r_zald cx hd e1 hc (hgo _ (fd_go_inv hn))
      · cases hn
    · cases hn
  case bastore =>
    dsimp only [fd_nx] at hn
    have hq0 := fd_if hn
    clear hn
    obtain ⟨rfl, hn⟩ := hq0
    unfold fd_zst at hn
    split at hn
    · split at hn
      · rename_i e1
        obtain ⟨hc, hn⟩ := fd_if hn
        exact fd_r_zast cx hd e1 hc (hgo _ (fd_go_inv hn))
      · cases hn
    · cases hn
  case arraylength =>
    dsimp only [fd_nx] at hn
    have hq0 := fd_if hn
    clear hn
    obtain ⟨rfl, hn⟩ := hq0
    unfold fd_len at hn
    split at hn
    · split at hn
      · rename_i e1
        exact fd_r_len cx hd e1 (hgo _ (fd_go_inv hn))
      · cases hn
      · split at hn
        · rename_i e1
          exact fd_r_lold cx hd e1 (hgo _ (fd_go_inv hn))
        · cases hn
    · cases hn
  case new i =>
    dsimp only [fd_nx] at hn
    have hq0 := fd_if hn
    clear hn
    obtain ⟨rfl, hn⟩ := hq0
    unfold fd_mk at hn
    split at hn
    · rename_i i' ci w e1
      obtain ⟨hc, hn⟩ := fd_if hn
      exact fd_r_new cx hd e1 hc.1 hc.2.1 hc.2.2 (hgo _ (Option.some.inj hn).symm)
    · cases hn
  case newarray t =>
    dsimp only [fd_nx] at hn
    have hq0 := fd_if hn
    clear hn
    obtain ⟨rfl, hn⟩ := hq0
    split at hn
    · unfold fd_mka at hn
      split at hn
      · obtain ⟨hc, hn⟩ := fd_if hn
        exact fd_r_newa cx (z := false) hd rfl hc.1 hc.2.1 hc.2.2.1 hc.2.2.2.1 hc.2.2.2.2 (hgo _ (Option.some.inj hn).symm)
      · cases hn
    · unfold fd_mka at hn
      split at hn
      · obtain ⟨hc, hn⟩ := fd_if hn
        exact fd_r_newa cx (z := true) hd rfl hc.1 hc.2.1 hc.2.2.1 hc.2.2.2.1 hc.2.2.2.2 (hgo _ (Option.some.inj hn).symm)
      · cases hn
    · cases hn
  case invokevirtual i =>
    dsimp only [fd_nx] at hn
    have hq0 := fd_if hn
    clear hn
    obtain ⟨rfl, hn⟩ := hq0
    unfold fd_virt at hn
    split at hn
    · rename_i i' kd cal na w e1
      split at hn
      · rename_i hkd
        split at hn
        · rename_i b r e2
          obtain ⟨hc, hn⟩ := fd_if hn
          obtain ⟨⟨c1, c2, c3, c4, c5, c6⟩, e3⟩ := fd_enter_inv hn
          have est : st = (st.take na).reverse.reverse ++ .ref b :: r := by rw [List.reverse_reverse, ← e2, List.take_append_drop]
          intro hX
          obtain ⟨rv, k1, h1, hM, hk1, kk⟩ := hcall _ _ _ e3 c5 c6 hX
          have kk : fd_K p l e R s mm args below meth c Q B ad D X m (pc + 3) lo (rv.toList ++ r) (cn.1 + fd_mc cal, cn.2 + fd_ms cal) k1 h1 := kk
          have goal : fd_K p l e R s mm args below meth c Q B ad D X m pc lo ((st.take na).reverse.reverse ++ .ref b :: r) cn k h := fd_r_virt cx hd e1 hkd hc.1 (by rw [List.length_reverse]; exact hc.2) c1 c2 c3 c4 c5 hM kk hk1
          rw [← est] at goal
          exact goal hX
        · cases hn
      · split at hn
        · rename_i hkd
          subst hkd
          split at hn
          · obtain ⟨hc, hn⟩ := fd_if hn
            exact fd_r_slen cx hd e1 hc.1 hc.2.1 hc.2.2.1 hc.2.2.2 (hgo _ (fd_go_inv hn))
          · cases hn
        · split at hn
          · rename_i hkd
            subst hkd
            split at hn
            · obtain ⟨hc, hn⟩ := fd_if hn
              exact fd_r_schr cx hd e1 hc.1 hc.2.1 hc.2.2.1 hc.2.2.2.1 hc.2.2.2.2 (hgo _ (fd_go_inv hn))
            · cases hn
          · cases hn
    · cases hn
  case invokespecial i =>
    dsimp only [fd_nx] at hn
    have hq0 := fd_if hn
    clear hn
    obtain ⟨rfl, hn⟩ := hq0
    unfold fd_spec at hn
    split at hn
    · rename_i i' kd cal na w e1
      split at hn
      · rename_i hkd
        split at hn
        · rename_i b r e2
          obtain ⟨hc, hn⟩ := fd_if hn
          obtain ⟨⟨c1, c2, c3, c4, c5, c6⟩, e3⟩ := fd_enter_inv hn
          have est : st = (st.take na).reverse.reverse ++ .ref b :: r := by rw [List.reverse_reverse, ← e2, List.take_append_drop]
          intro hX
          obtain ⟨rv, k1, h1, hM, hk1, kk⟩ := hcall _ _ _ e3 c5 c6 hX
          have kk : fd_K p l e R s mm args below meth c Q B ad D X m (pc + 3) lo (rv.toList ++ r) (cn.1 + fd_mc cal, cn.2 + fd_ms cal) k1 h1 := kk
          have goal : fd_K p l e R s mm args below meth c Q B ad D X m pc lo ((st.take na).reverse.reverse ++ .ref b :: r) cn k h := fd_r_spec cx hd e1 hkd (by rw [List.length_reverse]; exact hc) c1 c2 c3 c4 c5 hM kk hk1
          rw [← est] at goal
          exact goal hX
        · cases hn
      · split at hn
        · rename_i hkd
          subst hkd
          split at hn
          · obtain ⟨hc, hn⟩ := fd_if hn
            exact fd_r_obj cx hd e1 hc.1 hc.2 (hgo _ (fd_go_inv hn))
          · cases hn
        · cases hn
    · cases hn
  case invokestatic i =>
    dsimp only [fd_nx] at hn
    have hq0 := fd_if hn
    clear hn
    obtain ⟨rfl, hn⟩ := hq0
    unfold fd_stat at hn
    split at hn
    · rename_i i' kd cal na w e1
      split at hn
      · rename_i hkd
        obtain ⟨hc, hn⟩ := fd_if hn
        obtain ⟨⟨c1, c2, c3, c4, c5, c6⟩, e3⟩ := fd_enter_inv hn
        have est : st = (st.take na).reverse.reverse ++ st.drop na := by rw [List.reverse_reverse, List.take_append_drop]
        intro hX
        obtain ⟨rv, k1, h1, hM, hk1, kk⟩ := hcall _ _ _ e3 c5 c6 hX
        have kk : fd_K p l e R s mm args below meth c Q B ad D X m (pc + 3) lo (rv.toList ++ st.drop na) (cn.1 + fd_mc cal, cn.2 + fd_ms cal) k1 h1 := kk
        have goal : fd_K p l e R s mm args below meth c Q B ad D X m pc lo ((st.take na).reverse.reverse ++ st.drop na) cn k h := fd_r_stat cx hd e1 hkd (by rw [List.length_reverse]; exact hc) c1 c2 c3 c4 c5 hM kk hk1
        rw [← est] at goal
        exact goal hX
      · split at hn
        · rename_i hkd
          split at hn
          · obtain ⟨hc, hn⟩ := fd_if hn
            exact (fd_r_math cx hd e1 hc.1 hc.2).1 hkd (hgo _ (fd_go_inv hn))
          · cases hn
        · split at hn
          · rename_i hkd
            split at hn
            · obtain ⟨hc, hn⟩ := fd_if hn
              exact (fd_r_math cx hd e1 hc.1 hc.2).2.1 hkd (hgo _ (fd_go_inv hn))
            · cases hn
          · split at hn
            · rename_i hkd
              split at hn
              · obtain ⟨hc, hn⟩ := fd_if hn
                exact (fd_r_math (y := 0) cx hd e1 hc.1 hc.2).2.2 hkd (hgo _ (fd_go_inv hn))
              · cases hn
            · split at hn
              · rename_i hkd
                subst hkd
                split at hn
                · split at hn
                  · rename_i e2 e3
                    obtain ⟨hc, hn⟩ := fd_if hn
                    exact fd_r_copy cx hd e1 e2 e3 hc.1 hc.2.1 hc.2.2.2.1 hc.2.2.2.2.1 hc.2.2.2.2.2.1 hc.2.2.2.2.2.2.1 hc.2.2.2.2.2.2.2 (hgo _ (fd_go_inv hn))
                  · cases hn
                · cases hn
              · cases hn
    · cases hn
  case ireturn =>
    dsimp only [fd_nx] at hn
    have hq0 := fd_if hn
    clear hn
    obtain ⟨rfl, hn⟩ := hq0
    unfold fd_iret at hn
    split at hn
    · rename_i v ty e1
      obtain ⟨hc, hn⟩ := fd_if hn
      have hE := hrt _ _ _ (Option.some.inj hn).symm
      exact fun hX H locs ls hl hr hS g1 g2 => W.widen g1 g2 (hE pc H locs ls _ (Or.inl ⟨hd, v, ty, rfl, rfl, e1, hc⟩) hr hS)
    · cases hn
  case areturn =>
    dsimp only [fd_nx] at hn
    have hq0 := fd_if hn
    clear hn
    obtain ⟨rfl, hn⟩ := hq0
    unfold fd_aret at hn
    split at hn
    · rename_i v n e1
      have hE := hrt _ _ _ (Option.some.inj hn).symm
      exact fun hX H locs ls hl hr hS g1 g2 => W.widen g1 g2 (hE pc H locs ls _ (Or.inr (Or.inr ⟨hd, v, n, rfl, rfl, e1⟩)) hr hS)
    · cases hn
  case return_ =>
    dsimp only [fd_nx] at hn
    have hq0 := fd_if hn
    clear hn
    obtain ⟨rfl, hn⟩ := hq0
    unfold fd_vret at hn
    split at hn
    · rename_i e1
      have hE := hrt _ _ _ (Option.some.inj hn).symm
      exact fun hX H locs ls hl hr hS g1 g2 => W.widen g1 g2 (hE pc H locs ls _ (Or.inr (Or.inl ⟨hd, rfl, rfl, e1⟩)) hr hS)
    · cases hn
  all_goals (dsimp only [fd_nx] at hn; cases hn)
end STEP
