/-! NEW CELLS, CALLS -/
def fd_Pc (B : Nat) (ad adV : Nat → Nat) (D : va_G) (X : Nat × (Nat → Int32)) (as : List Value) (k : fd_Sk) (h : fd_Hp) : Array Value → State → Prop := fun v U => v = (as.map (fd_cv ad)).toArray ∧ B ≤ U.heap.size ∧ fd_WC ad adV X (fun q => B ≤ q) U U.heap ∧ fd_Rp B ad D U k h U.heap
def fd_Qc (B : Nat) (ad : Nat → Nat) (D : va_G) (rv : Option Value) (k1 : fd_Sk) (h1 : fd_Hp) : Array Value → State → Outcome → State → Prop := fun _ st o t => (o = .returned (rv.map (fd_cv ad)) ∧ fd_Rp B ad D t k1 h1 t.heap) ∧ va_F (fun q => B ≤ q) st t
def fd_rm (m : Nat) : Room := { frames := fd_rk m, cells := fd_mc m, slots := fd_ms m, locals := 32 * fd_rk m }
def fd_ws (m : Nat) : List Cond := .code (fd_name m) (fd_code m) (fd_ml m) (fd_ret m) :: fd_tbl
def fd_MT (l : Launch) (B : Nat) (ad adV : Nat → Nat) (D : va_G) (X : Nat × (Nat → Int32)) (cal : Nat) (as : List Value) (k : fd_Sk) (h : fd_Hp) (rv : Option Value) (k1 : fd_Sk) (h1 : fd_Hp) : Prop :=
  Met l (fd_name cal) (fd_ws cal) (fd_rm cal) (fd_Pc B ad adV D X as k h) (fd_Qc B ad D rv k1 h1) (fd_mc cal) (fd_ms cal) (fun q => B ≤ q)
theorem fd_Pc_blind {B : Nat} {ad adV : Nat → Nat} {D : va_G} {X : Nat × (Nat → Int32)} {as : List Value} {k : fd_Sk} {h : fd_Hp} : FrameBlind (fd_Pc B ad adV D X as k h) := fun _ U g mk q => ⟨q.1, q.2.1, q.2.2.1.same (u := U) rfl, q.2.2.2.moved (u := U) (Vm.Alike.refl U.vm)⟩
theorem fd_ws_in {cal : Nat} (hc : cal < 201) : GoodIn fd_tbl (fd_ws cal) := fun w hw => by
  rcases List.mem_cons.mp hw with e | e
  · subst e
    exact fd_good _ (fd_tbl_in (fd_tb_code cal hc) rfl)
  · exact fd_good _ e
section CALLS
variable {p : Program} {l : Launch} {e : Env} {R : Room} {s : State} {mm : MethodId} {args : Array Value} {below : List Frame} {meth : Method} {c : Code} {Q : State → Prop} {B : Nat} {ad adV : Nat → Nat} {D : va_G} {X : Nat × (Nat → Int32)} {m pc : Nat} {lo : fd_Lc} {st r : List Value} {cn : Nat × Nat} {k : fd_Sk} {h : fd_Hp}
variable {H : Heap} {locs : List Loc} {ls : Array Slot} {cells slots : Nat}
theorem fd_r_new (cx : fd_Cx p e R s mm args meth c B ad adV D X m) {i i' ci w : Nat} (hd : decode (fd_code m) pc = .ok (.new i, 3)) (hf : fd_ncl (fd_own m) i = some (i', ci, w)) (hc1 : cn.1 + 1 ≤ fd_mc m) (hc2 : cn.2 + fd_nf ci ≤ fd_ms m) (hl9 : k.1.1.length < 999) (kk : fd_K p l e R s mm args below meth c Q B ad D X m (pc + 3) lo (.ref k.1.1.length :: st) (cn.1 + 1, cn.2 + fd_nf ci) (fd_new k (.inl ci)) (fd_zero k h)) : fd_K p l e R s mm args below meth c Q B ad D X m pc lo st cn k h := by
  intro hX H locs ls hl hr hS h1 h2
  obtain ⟨hx, hb, -, hown, hts, -, -, -, hRc, hRs, -, -, had⟩ := cx
  obtain ⟨hm, he⟩ := fd_find hf
  dsimp only at he
  subst he
  obtain ⟨hw, hci⟩ := fd_tb_ncl _ (fd_own_lt m) _ hm
  dsimp only at hw hci
  have hKn := hr.2.2.1.1 ci _ (fd_vw ci hci)
  have hlen : ad k.1.1.length = B + k.1.1.length := had _ hr.2.1
  refine W.newcK hx hb hown (hts _ (fd_tbl_in hw rfl)) (hts _ (fd_tbl_in (fd_tb_cls ci hci).1 rfl)) (hts _ (fd_tbl_in (fd_tb_cls ci hci).2 rfl)) rfl hd (by rw [hRc]; exact hc1) (by rw [hRs]; exact hc2) hKn.2.1 (hr.1.trans hlen.symm) (fun H' kC hkC e1 z1 o1 => ?_)
  refine kk hX H' locs ls hl ⟨?_, ?_, hr.2.2.1, fun q t hq => ?_⟩ ⟨?_, fun q g1 g2 => ?_, hS.2.2⟩ hc1 hc2
  · rw [z1, hlen]
    show B + k.1.1.length + 1 = B + (k.1.1 ++ [_]).length
    rw [List.length_append]
    rfl
  · show (k.1.1 ++ [_]).length < 1000
    rw [List.length_append]
    show k.1.1.length + 1 < 1000
    omega
  · have hq : (k.1.1 ++ [Sum.inl ci])[q]? = some t := hq
    rcases Nat.lt_or_ge q k.1.1.length with g | g
    · rw [List.getElem?_append_left g] at hq
      have hne : q ≠ k.1.1.length := Nat.ne_of_lt g
      refine (hr.2.2.2 q t hq).kept (o1 _ ?_) (fun c j _ => ?_) (fun _ _ _ => ?_)
      · rw [hlen, had q (Nat.lt_trans g hr.2.1)]; omega
      · simp [fd_val, fd_new, fd_zero, hne]
      · funext j; simp [fd_zero, hne]
    · rw [List.getElem?_append_right g] at hq
      have hz := (List.getElem?_eq_some_iff.mp hq).1
      have e9 : q = k.1.1.length := by simp at hz; omega
      subst e9
      rw [Nat.sub_self] at hq
      cases hq
      refine ⟨hci, (u_born (fd_ty ci) hts (fd_hin ci hci) hKn hkC e1 (fd_typ ci hci)).to (fun j hj => ?_)⟩
      show defaultValue (fd_ty ci j) = fd_cv ad (fd_val (fd_new k (.inl ci)) (fd_zero k h) ci k.1.1.length j)
      rcases fd_tb_kind ci hci j hj with ⟨y0, t0⟩ | ⟨y1, t1⟩ | ⟨y2, t2, -⟩
      · rw [t0]; simp [fd_val, fd_new, fd_zero, y0, fd_cv, defaultValue]
      · have e3 : defaultValue (fd_ty ci j) = .null := by
          cases hty : fd_ty ci j <;> rw [hty] at t1 <;> simp at t1 <;> rfl
        rw [e3]; simp [fd_val, fd_new, fd_zero, y1, fd_cv]
      · rw [t2]; simp [fd_val, fd_new, fd_zero, y2, fd_cv, defaultValue]
  · rw [z1, hlen]; have := hS.1; rw [hr.1] at this; omega
  · rw [o1 q (by rw [hlen, ← hr.1]; exact Nat.lt_of_lt_of_le g1 hS.1)]
    exact hS.2.1 q g1 g2
theorem fd_r_newa (cx : fd_Cx p e R s mm args meth c B ad adV D X m) {t : ArrayType} {z : Bool} {x : Int32} (hd : decode (fd_code m) pc = .ok (.newarray t, 2)) (hty : newarray.typeOf t = (if z then .boolean else .int)) (hx0 : ¬ x < 0) (hx1 : x.toNatClampNeg ≤ 1000) (hc1 : cn.1 + 1 ≤ fd_mc m) (hc2 : cn.2 + x.toNatClampNeg ≤ fd_ms m) (hl9 : k.1.1.length < 999) (kk : fd_K p l e R s mm args below meth c Q B ad D X m (pc + 2) lo (.ref k.1.1.length :: r) (cn.1 + 1, cn.2 + x.toNatClampNeg) (fd_new k (.inr (z, x.toNatClampNeg))) (fd_zero k h)) : fd_K p l e R s mm args below meth c Q B ad D X m pc lo (.int x :: r) cn k h := by
  intro hX H locs ls hl hr hS h1 h2
  obtain ⟨hx, hb, -, hown, hts, -, -, -, hRc, hRs, -, -, had⟩ := cx
  have hlen : ad k.1.1.length = B + k.1.1.length := had _ hr.2.1
  have harr : (Cond.arrayClass (newarray.typeOf t)).before args s = true := by
    rw [hty]
    cases z
    · exact hts _ (fd_tbl_in fd_tb_arr.1 rfl)
    · exact hts _ (fd_tbl_in fd_tb_arr.2 rfl)
  have hby : componentBytes (newarray.typeOf t) ≤ 8 := by rw [hty]; cases z <;> decide
  have hdv : defaultValue (newarray.typeOf t) = .int 0 := by rw [hty]; cases z <;> rfl
  refine va_newaK hx hb harr rfl hd rfl hx0 rfl (Nat.le_trans (Nat.mul_le_mul hx1 hby) (by decide)) (by rw [hRc]; exact hc1) (by rw [hRs]; exact hc2) (hr.1.trans hlen.symm) (fun H' cA e1 z1 o1 hAr hNm => ?_)
  refine kk hX H' locs ls hl ⟨?_, ?_, hr.2.2.1, fun q t' hq => ?_⟩ ⟨?_, fun q g1 g2 => ?_, hS.2.2⟩ hc1 hc2
  · rw [z1, hlen]
    show B + k.1.1.length + 1 = B + (k.1.1 ++ [_]).length
    rw [List.length_append]
    rfl
  · show (k.1.1 ++ [_]).length < 1000
    rw [List.length_append]
    show k.1.1.length + 1 < 1000
    omega
  · have hq : (k.1.1 ++ [Sum.inr (z, x.toNatClampNeg)])[q]? = some t' := hq
    rcases Nat.lt_or_ge q k.1.1.length with g | g
    · rw [List.getElem?_append_left g] at hq
      have hne : q ≠ k.1.1.length := Nat.ne_of_lt g
      refine (hr.2.2.2 q t' hq).kept (o1 _ ?_) (fun c j _ => ?_) (fun _ _ _ => ?_)
      · rw [hlen, had q (Nat.lt_trans g hr.2.1)]; omega
      · simp [fd_val, fd_new, fd_zero, hne]
      · funext j; simp [fd_zero, hne]
    · rw [List.getElem?_append_right g] at hq
      have hz := (List.getElem?_eq_some_iff.mp hq).1
      have e9 : q = k.1.1.length := by simp at hz; omega
      subst e9
      rw [Nat.sub_self] at hq
      cases hq
      refine ⟨cA, by rw [← hty]; exact hAr, ?_⟩
      rw [e1, hdv]
      simp [fd_zero]
  · rw [z1, hlen]; have := hS.1; rw [hr.1] at this; omega
  · rw [o1 q (by rw [hlen, ← hr.1]; exact Nat.lt_of_lt_of_le g1 hS.1)]
    exact hS.2.1 q g1 g2
theorem fd_ret_go {st0 rest : List Value} {a : Array Value} {rv : Option Value} {k1 : fd_Sk} {h1 : fd_Hp} {mc ms : Nat} (hr : va_Run p l e R s mm args below meth c H locs cells slots mc ms (F0 mm pc ls st0) rest (fd_Qc B ad D rv k1 h1 a) (fun q => B ≤ q)) (hS : va_S (fun q => B ≤ q) s.heap H locs)
    (kk : ∀ (H1 : Heap) (locs1 : List Loc), fd_Rp B ad D s k1 h1 H1 → va_S (fun q => B ≤ q) s.heap H1 locs1 → W p l e R s mm args below meth c H1 locs1 (cells + mc) (slots + ms) Q (F0 mm (pc + 3) ls ((rv.map (fd_cv ad)).toList ++ rest))) : W p l e R s mm args below meth c H locs cells slots Q (F0 mm pc ls st0) := by
  intro T hT X0
  obtain ⟨v, st₀, t, T', L, h0, X', hL, e1, e2, ⟨⟨hv, hRp⟩, hz, hk⟩, st⟩ := hr T hT X0
  have hv' : v = rv.map (fd_cv ad) := by cases hv; rfl
  subst hv'
  rw [h0] at hz hk
  obtain ⟨t2, a1, b1⟩ := kk T'.heap (locs ++ L) (by rw [e1]; exact hRp.moved (by rw [← e2]; exact X'.warmed.alike.symm))
    ⟨Nat.le_trans hS.1 (by rw [e1]; exact hz), fun q g1 g2 => by rw [e1, hk q (Nat.lt_of_lt_of_le g1 hS.1) g2]; exact hS.2.1 q g1 g2, fun q hq => by
      rcases List.mem_append.mp hq with z | z
      · exact hS.2.2 q z
      · exact hL q z⟩ T' rfl X'
  exact ⟨t2, st t2 a1, b1⟩
theorem fd_retl (rv : Option Value) (r : List Value) : (rv.map (fd_cv ad)).toList ++ r.map (fd_cv ad) = (rv.toList ++ r).map (fd_cv ad) := by cases rv <;> rfl
theorem fd_pre (cx : fd_Cx p e R s mm args meth c B ad adV D X m) (hr : fd_Rp B ad D s k h H) (hS : va_S (fun q => B ≤ q) s.heap H locs) (as : List Value) : PreS s H (fd_Pc B ad adV D X as k h) (as.map (fd_cv ad)) := by
  obtain ⟨-, -, -, -, -, -, -, -, -, -, hB, hC, -⟩ := cx
  refine ⟨fd_Pc_blind, fun U hU hW => ⟨rfl, ?_, ?_, ?_⟩⟩
  · rw [hU]; exact Nat.le_trans hB hS.1
  · rw [hU]; exact (hC.kept hS.2.1).warm hW
  · rw [hU]; exact hr.moved hW.alike
theorem fd_room {cal : Nat} (cx : fd_Cx p e R s mm args meth c B ad adV D X m) (hc : cal < 201) (hrk : fd_rk cal < fd_rk m) : (fd_rm cal).frames + 1 ≤ R.frames ∧ 8 + (fd_ml cal + 11) + (fd_rm cal).locals ≤ R.locals := by
  obtain ⟨-, -, -, -, -, -, hR1, hR2, -⟩ := cx
  have := (fd_tb_meth cal hc).2.2.1
  refine ⟨?_, ?_⟩
  · show fd_rk cal + 1 ≤ _
    omega
  · show 8 + (fd_ml cal + 11) + 32 * fd_rk cal ≤ _
    omega
theorem fd_recv {b ci : Nat} (hr : fd_Rp B ad D s k h H) (hb : fd_at k b = some (.inl ci)) : ∃ cell : Cell, H[ad b]? = some cell ∧ cell.vm.isStatics = false ∧ s.vm.findClass (fd_cn ci) = some cell.cls := by
  obtain ⟨hci, cell, q1, q2, q3, -⟩ := hr.2.2.2 _ _ hb
  exact ⟨cell, q1, by rw [q3]; rfl, by rw [q2]; exact (hr.2.2.1.1 ci _ (fd_vw ci hci)).2.1⟩
theorem fd_r_virt (cx : fd_Cx p e R s mm args meth c B ad adV D X m) {i i' kd cal na w b : Nat} {as : List Value} {rv : Option Value} {k1 : fd_Sk} {h1 : fd_Hp} (hd : decode (fd_code m) pc = .ok (.invokevirtual i, 3)) (hf : fd_lnk (fd_own m) i = some (i', kd, cal, na, w)) (hkd : kd = 0 ∨ kd = 3) (hb0 : fd_at k b = some (.inl (fd_own cal))) (hal : as.length = na) (hrl : r.length ≤ 4) (hrk : fd_rk cal < fd_rk m) (hc1 : cn.1 + fd_mc cal ≤ fd_mc m) (hc2 : cn.2 + fd_ms cal ≤ fd_ms m) (hcal : cal < 201)
    (hM : fd_MT l B ad adV D X cal (.ref b :: as) k h rv k1 h1) (kk : fd_K p l e R s mm args below meth c Q B ad D X m (pc + 3) lo (rv.toList ++ r) (cn.1 + fd_mc cal, cn.2 + fd_ms cal) k1 h1) (hX1 : k1.2 = k.2) : fd_K p l e R s mm args below meth c Q B ad D X m pc lo (as.reverse ++ .ref b :: r) cn k h := by
  intro hX H locs ls hl hr hS g1 g2
  have hroom := fd_room cx hcal hrk
  have hpre := fd_pre cx hr hS (.ref b :: as)
  obtain ⟨hx, hb, hml, hown, hts, -, hR1, hR2, hRc, hRs, hB, hC, had⟩ := cx
  obtain ⟨hm, he⟩ := fd_find hf
  dsimp only at he
  subst he
  have hw := fd_tb_lnk _ (fd_own_lt m) _ hm
  obtain ⟨-, hpar⟩ := fd_tb_lnk2 _ (fd_own_lt m) _ hm (by dsimp only; omega)
  obtain ⟨hins, hsel⟩ := fd_tb_lnkV _ (fd_own_lt m) _ hm hkd
  dsimp only at hpar hins hsel
  obtain ⟨hini, hmh, -, hcls, -, -⟩ := fd_tb_meth cal hcal
  have hstk : (as.reverse ++ .ref b :: r).map (fd_cv ad) = (as.map (fd_cv ad)).reverse ++ .ref (ad b) :: r.map (fd_cv ad) := by
    rw [List.map_append, List.map_reverse]; rfl
  have fin : ∀ (H1 : Heap) (locs1 : List Loc), fd_Rp B ad D s k1 h1 H1 → va_S (fun q => B ≤ q) s.heap H1 locs1 → W p l e R s mm args below meth c H1 locs1 (cn.1 + fd_mc cal) (cn.2 + fd_ms cal) Q (F0 mm (pc + 3) ls ((rv.map (fd_cv ad)).toList ++ r.map (fd_cv ad))) := by
    intro H1 locs1 y1 y2
    rw [fd_retl]
    exact kk (by rw [hX1]; exact hX) H1 locs1 ls hl y1 y2 hc1 hc2
  have hrv := fd_recv hr hb0
  rw [← hcls] at hrv
  rcases hkd with e | e
  · subst e
    exact fd_ret_go (va_runV (As := as.map (fd_cv ad)) (rest := r.map (fd_cv ad)) (C := (fd_name cal).cls) ⟨hx, hb, hml, hown, hts⟩ hM ⟨callB_of na hts (fd_ws_in hcal) rfl rfl rfl (hts _ (fd_tbl_in hini rfl)) (hts _ (fd_tbl_in hw rfl)) ⟨hmh.1, hmh.2, hpar⟩ hroom, hts _ (fd_tbl_in hins rfl), hts _ (fd_tbl_in hsel rfl)⟩ ⟨hpre.1, hrv, hpre.2⟩ rfl (by rw [List.length_map]; exact hal) hl.2.1 hstk (lv_room (fd_catsum hrl)) hd ⟨by rw [hRc]; exact hc1, by rw [hRs]; exact hc2⟩) hS fin
  · subst e
    have hnw := hC.2.2.2.2.2.2.2.2 _ (fd_own_lt m) _ hm (Or.inl rfl)
    exact fd_ret_go (va_runVN (As := as.map (fd_cv ad)) (rest := r.map (fd_cv ad)) (C := (fd_name cal).cls) ⟨hx, hb, hml, hown, hts⟩ hM ⟨va_cnB na hts (fd_ws_in hcal) rfl rfl rfl hnw (hts _ (fd_tbl_in hini rfl)) ⟨hmh.1, hmh.2, hpar⟩ hroom, hts _ (fd_tbl_in hins rfl), hts _ (fd_tbl_in hsel rfl)⟩ ⟨hpre.1, hrv, hpre.2⟩ rfl (by rw [List.length_map]; exact hal) hl.2.1 hstk (lv_room (fd_catsum hrl)) hd ⟨by rw [hRc]; exact hc1, by rw [hRs]; exact hc2⟩) hS fin
theorem fd_r_spec (cx : fd_Cx p e R s mm args meth c B ad adV D X m) {i i' kd cal na w b : Nat} {as : List Value} {rv : Option Value} {k1 : fd_Sk} {h1 : fd_Hp} (hd : decode (fd_code m) pc = .ok (.invokespecial i, 3)) (hf : fd_lnk (fd_own m) i = some (i', kd, cal, na, w)) (hkd : kd = 2 ∨ kd = 5) (hal : as.length = na) (hrl : r.length ≤ 4) (hrk : fd_rk cal < fd_rk m) (hc1 : cn.1 + fd_mc cal ≤ fd_mc m) (hc2 : cn.2 + fd_ms cal ≤ fd_ms m) (hcal : cal < 201)
    (hM : fd_MT l B ad adV D X cal (.ref b :: as) k h rv k1 h1) (kk : fd_K p l e R s mm args below meth c Q B ad D X m (pc + 3) lo (rv.toList ++ r) (cn.1 + fd_mc cal, cn.2 + fd_ms cal) k1 h1) (hX1 : k1.2 = k.2) : fd_K p l e R s mm args below meth c Q B ad D X m pc lo (as.reverse ++ .ref b :: r) cn k h := by
  intro hX H locs ls hl hr hS g1 g2
  have hroom := fd_room cx hcal hrk
  have hpre := fd_pre cx hr hS (.ref b :: as)
  obtain ⟨hx, hb, hml, hown, hts, -, hR1, hR2, hRc, hRs, hB, hC, had⟩ := cx
  obtain ⟨hm, he⟩ := fd_find hf
  dsimp only at he
  subst he
  have hw := fd_tb_lnk _ (fd_own_lt m) _ hm
  obtain ⟨-, hpar⟩ := fd_tb_lnk2 _ (fd_own_lt m) _ hm (by dsimp only; omega)
  obtain ⟨hins, hnm, hrt⟩ := fd_tb_lnkI _ (fd_own_lt m) _ hm hkd
  dsimp only at hpar hins hnm hrt
  obtain ⟨hini, hmh, -, hcls, -, -⟩ := fd_tb_meth cal hcal
  have hstk : (as.reverse ++ .ref b :: r).map (fd_cv ad) = (as.map (fd_cv ad)).reverse ++ .ref (ad b) :: r.map (fd_cv ad) := by
    rw [List.map_append, List.map_reverse]; rfl
  have fin : ∀ (H1 : Heap) (locs1 : List Loc), fd_Rp B ad D s k1 h1 H1 → va_S (fun q => B ≤ q) s.heap H1 locs1 → W p l e R s mm args below meth c H1 locs1 (cn.1 + fd_mc cal) (cn.2 + fd_ms cal) Q (F0 mm (pc + 3) ls ((rv.map (fd_cv ad)).toList ++ r.map (fd_cv ad))) := by
    intro H1 locs1 y1 y2
    rw [fd_retl]
    exact kk (by rw [hX1]; exact hX) H1 locs1 ls hl y1 y2 hc1 hc2
  have hwc : fd_ws cal = Cond.code (fd_name cal) (fd_code cal) (fd_ml cal) none :: fd_tbl := by rw [← hrt]; rfl
  rcases hkd with e | e
  · subst e
    exact fd_ret_go (va_runI (As := as.map (fd_cv ad)) (rest := r.map (fd_cv ad)) ⟨hx, hb, hml, hown, hts⟩ hM ⟨callB_of na hts (fd_ws_in hcal) hwc rfl rfl (hts _ (fd_tbl_in hini rfl)) (hts _ (fd_tbl_in hw rfl)) ⟨hmh.1, hmh.2, hpar⟩ hroom, hnm, hts _ (fd_tbl_in hins rfl)⟩ hpre rfl (by rw [List.length_map]; exact hal) hl.2.1 hstk (lv_room (fd_catsum hrl)) hd ⟨by rw [hRc]; exact hc1, by rw [hRs]; exact hc2⟩) hS fin
  · subst e
    have hnw := hC.2.2.2.2.2.2.2.2 _ (fd_own_lt m) _ hm (Or.inr (Or.inr rfl))
    exact fd_ret_go (va_runIN (As := as.map (fd_cv ad)) (rest := r.map (fd_cv ad)) ⟨hx, hb, hml, hown, hts⟩ hM ⟨va_cnB na hts (fd_ws_in hcal) hwc rfl rfl hnw (hts _ (fd_tbl_in hini rfl)) ⟨hmh.1, hmh.2, hpar⟩ hroom, hnm, hts _ (fd_tbl_in hins rfl)⟩ hpre rfl (by rw [List.length_map]; exact hal) hl.2.1 hstk (lv_room (fd_catsum hrl)) hd ⟨by rw [hRc]; exact hc1, by rw [hRs]; exact hc2⟩) hS fin
theorem fd_r_stat (cx : fd_Cx p e R s mm args meth c B ad adV D X m) {i i' kd cal na w : Nat} {as : List Value} {rv : Option Value} {k1 : fd_Sk} {h1 : fd_Hp} (hd : decode (fd_code m) pc = .ok (.invokestatic i, 3)) (hf : fd_lnk (fd_own m) i = some (i', kd, cal, na, w)) (hkd : kd = 1 ∨ kd = 4) (hal : as.length = na) (hrl : r.length ≤ 4) (hrk : fd_rk cal < fd_rk m) (hc1 : cn.1 + fd_mc cal ≤ fd_mc m) (hc2 : cn.2 + fd_ms cal ≤ fd_ms m) (hcal : cal < 201)
    (hM : fd_MT l B ad adV D X cal as k h rv k1 h1) (kk : fd_K p l e R s mm args below meth c Q B ad D X m (pc + 3) lo (rv.toList ++ r) (cn.1 + fd_mc cal, cn.2 + fd_ms cal) k1 h1) (hX1 : k1.2 = k.2) : fd_K p l e R s mm args below meth c Q B ad D X m pc lo (as.reverse ++ r) cn k h := by
  intro hX H locs ls hl hr hS g1 g2
  have hroom := fd_room cx hcal hrk
  have hpre := fd_pre cx hr hS as
  obtain ⟨hx, hb, hml, hown, hts, -, hR1, hR2, hRc, hRs, hB, hC, had⟩ := cx
  obtain ⟨hm, he⟩ := fd_find hf
  dsimp only at he
  subst he
  have hw := fd_tb_lnk _ (fd_own_lt m) _ hm
  obtain ⟨-, hpar⟩ := fd_tb_lnk2 _ (fd_own_lt m) _ hm (by dsimp only; omega)
  have hins := fd_tb_lnkS _ (fd_own_lt m) _ hm hkd
  dsimp only at hpar hins
  obtain ⟨hini, hmh, -, hcls, -, -⟩ := fd_tb_meth cal hcal
  have hstk : (as.reverse ++ r).map (fd_cv ad) = (as.map (fd_cv ad)).reverse ++ r.map (fd_cv ad) := by
    rw [List.map_append, List.map_reverse]
  have fin : ∀ (H1 : Heap) (locs1 : List Loc), fd_Rp B ad D s k1 h1 H1 → va_S (fun q => B ≤ q) s.heap H1 locs1 → W p l e R s mm args below meth c H1 locs1 (cn.1 + fd_mc cal) (cn.2 + fd_ms cal) Q (F0 mm (pc + 3) ls ((rv.map (fd_cv ad)).toList ++ r.map (fd_cv ad))) := by
    intro H1 locs1 y1 y2
    rw [fd_retl]
    exact kk (by rw [hX1]; exact hX) H1 locs1 ls hl y1 y2 hc1 hc2
  rcases hkd with e | e
  · subst e
    exact fd_ret_go (va_runS (As := as.map (fd_cv ad)) (rest := r.map (fd_cv ad)) ⟨hx, hb, hml, hown, hts⟩ hM ⟨callB_of na hts (fd_ws_in hcal) rfl rfl rfl (hts _ (fd_tbl_in hini rfl)) (hts _ (fd_tbl_in hw rfl)) ⟨hmh.1, hmh.2, hpar⟩ hroom, hts _ (fd_tbl_in hins rfl)⟩ hpre rfl (by rw [List.length_map]; exact hal) hl.2.1 hstk (lv_room (fd_catsum hrl)) hd ⟨by rw [hRc]; exact hc1, by rw [hRs]; exact hc2⟩) hS fin
  · subst e
    have hnw := hC.2.2.2.2.2.2.2.2 _ (fd_own_lt m) _ hm (Or.inr (Or.inl rfl))
    exact fd_ret_go (va_runSN (As := as.map (fd_cv ad)) (rest := r.map (fd_cv ad)) ⟨hx, hb, hml, hown, hts⟩ hM ⟨va_cnB na hts (fd_ws_in hcal) rfl rfl rfl hnw (hts _ (fd_tbl_in hini rfl)) ⟨hmh.1, hmh.2, hpar⟩ hroom, hts _ (fd_tbl_in hins rfl), trivial⟩ hpre rfl (by rw [List.length_map]; exact hal) hl.2.1 hstk (lv_room (fd_catsum hrl)) hd ⟨by rw [hRc]; exact hc1, by rw [hRs]; exact hc2⟩) hS fin
end CALLS
