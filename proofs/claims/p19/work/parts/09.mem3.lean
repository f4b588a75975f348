section MIH
variable {p : Program} {l : Launch} {e : Env} {R : Room} {s : State} {m : MethodId} {args : Array Value} {below : List Frame} {meth : Method} {c : Code} {H : Heap} {locs : List Loc} {cells slots : Nat} {Q : State → Prop}
variable {cc : ByteArray} {pc pc' c' s' : Nat} {st st' : List Value} {h h' : mi_H} {ad : List Nat} {cn : Nat → Nat} {ids : Nat → ClassId} {D : va_G} {A : Nat → Prop} {sw : List Value} {ls : Array Slot}
theorem mi_nari_ok (hx : p.tables.exec = Jvm.exec) (hb : c.code = cc) (hts : ∀ w ∈ mi_need, w.before args s = true) (hK : va_K D mi_cl (mi_tys ids) s) (hA : ∀ q, s.heap.size ≤ q → A q) (hRc : c' ≤ R.cells) (hRs : s' ≤ R.slots) (hd : decode cc pc = .ok (.newarray .int, 2)) (hh : mi_nar 0 (fun n => (n, .inl (fun _ => 0))) (pc + 2) st h cells slots = some (pc', st', h', c', s')) (hw : mi_Wd D ids cn A s ad h H locs) (hs : mi_rl ad cn st sw) (kk : mi_KH p l e R s m args below meth c Q D ids cn A ls ad pc' st' h' c' s') : W p l e R s m args below meth c H locs cells slots Q (F0 m pc ls sw) := by
  unfold mi_nar at hh
  split at hh
  next n r =>
    split at hh
    next hin =>
      cases hh
      have hin' := mi_inb_ok hin
      have h0 : ¬ n < 0 := fun q => hin' (Or.inl q)
      have h1 : n.toNatClampNeg < 200001 := Nat.not_le.mp fun q => hin' (Or.inr q)
      obtain ⟨ws, hrw, hP, hD, hS⟩ := hw
      obtain ⟨_, rw', rfl, rfl, hr⟩ := hs
      have hwd : (Cond.arrayClass .int).before args s = true := hts _ (mi_in3 (List.mem_of_getElem? (i := 0) rfl))
      have hid : s.vm.findClass ("[" ++ (FieldType.int).toString) = some (ids 0) := (hK.2 0 _ rfl).2
      refine va_newa (atype := .int) (ty := .int) (a0 := (n.toNatClampNeg, .inl (fun _ => 0))) hx hb hwd rfl hK hP hD hS hA (fun cA => rfl) h0 rfl ?_ hRc hRs hd (fun q cA H1 hK1 hP1 hD1 hS1 => ?_)
      · have hcb : componentBytes FieldType.int ≤ 8 := by decide
        have := Nat.mul_le_mul (Nat.le_of_lt h1) hcb
        exact Nat.le_trans this (Nat.le_of_ble_eq_true rfl)
      · have hid2 : s.vm.findClass ("[" ++ (FieldType.int).toString) = some cA := (hK1.2 5 _ rfl).2
        have hcA : cA = ids 0 := Option.some.inj (hid2.symm.trans hid)
        subst hcA
        exact kk _ _ _ _ (mi_le_app _ q) ⟨_, mi_rw_push hrw (by rfl), hP1, hD1, hS1⟩ (mi_rl_c ⟨q, mi_last_ad hrw q, rfl⟩ (mi_rl_mono (mi_le_app _ q) hr))
    next => cases hh
  next => cases hh
theorem mi_narl_ok (hx : p.tables.exec = Jvm.exec) (hb : c.code = cc) (hts : ∀ w ∈ mi_need, w.before args s = true) (hK : va_K D mi_cl (mi_tys ids) s) (hA : ∀ q, s.heap.size ≤ q → A q) (hRc : c' ≤ R.cells) (hRs : s' ≤ R.slots) (hd : decode cc pc = .ok (.newarray .long, 2)) (hh : mi_nar 1 (fun n => (n, .inr (.inl (fun _ => 0)))) (pc + 2) st h cells slots = some (pc', st', h', c', s')) (hw : mi_Wd D ids cn A s ad h H locs) (hs : mi_rl ad cn st sw) (kk : mi_KH p l e R s m args below meth c Q D ids cn A ls ad pc' st' h' c' s') : W p l e R s m args below meth c H locs cells slots Q (F0 m pc ls sw) := by
  unfold mi_nar at hh
  split at hh
  next n r =>
    split at hh
    next hin =>
      cases hh
      have hin' := mi_inb_ok hin
      have h0 : ¬ n < 0 := fun q => hin' (Or.inl q)
      have h1 : n.toNatClampNeg < 200001 := Nat.not_le.mp fun q => hin' (Or.inr q)
      obtain ⟨ws, hrw, hP, hD, hS⟩ := hw
      obtain ⟨_, rw', rfl, rfl, hr⟩ := hs
      have hwd : (Cond.arrayClass .long).before args s = true := hts _ (mi_in3 (List.mem_of_getElem? (i := 1) rfl))
      have hid : s.vm.findClass ("[" ++ (FieldType.long).toString) = some (ids 1) := (hK.2 1 _ rfl).2
      refine va_newa (atype := .long) (ty := .long) (a0 := (n.toNatClampNeg, .inr (.inl (fun _ => 0)))) hx hb hwd rfl hK hP hD hS hA (fun cA => rfl) h0 rfl ?_ hRc hRs hd (fun q cA H1 hK1 hP1 hD1 hS1 => ?_)
      · have hcb : componentBytes FieldType.long ≤ 8 := by decide
        have := Nat.mul_le_mul (Nat.le_of_lt h1) hcb
        exact Nat.le_trans this (Nat.le_of_ble_eq_true rfl)
      · have hid2 : s.vm.findClass ("[" ++ (FieldType.long).toString) = some cA := (hK1.2 5 _ rfl).2
        have hcA : cA = ids 1 := Option.some.inj (hid2.symm.trans hid)
        subst hcA
        exact kk _ _ _ _ (mi_le_app _ q) ⟨_, mi_rw_push hrw (by rfl), hP1, hD1, hS1⟩ (mi_rl_c ⟨q, mi_last_ad hrw q, rfl⟩ (mi_rl_mono (mi_le_app _ q) hr))
    next => cases hh
  next => cases hh
theorem mi_narb_ok (hx : p.tables.exec = Jvm.exec) (hb : c.code = cc) (hts : ∀ w ∈ mi_need, w.before args s = true) (hK : va_K D mi_cl (mi_tys ids) s) (hA : ∀ q, s.heap.size ≤ q → A q) (hRc : c' ≤ R.cells) (hRs : s' ≤ R.slots) (hd : decode cc pc = .ok (.newarray .byte, 2)) (hh : mi_nar 2 (fun n => (n, .inl (fun _ => 0))) (pc + 2) st h cells slots = some (pc', st', h', c', s')) (hw : mi_Wd D ids cn A s ad h H locs) (hs : mi_rl ad cn st sw) (kk : mi_KH p l e R s m args below meth c Q D ids cn A ls ad pc' st' h' c' s') : W p l e R s m args below meth c H locs cells slots Q (F0 m pc ls sw) := by
  unfold mi_nar at hh
  split at hh
  next n r =>
    split at hh
    next hin =>
      cases hh
      have hin' := mi_inb_ok hin
      have h0 : ¬ n < 0 := fun q => hin' (Or.inl q)
      have h1 : n.toNatClampNeg < 200001 := Nat.not_le.mp fun q => hin' (Or.inr q)
      obtain ⟨ws, hrw, hP, hD, hS⟩ := hw
      obtain ⟨_, rw', rfl, rfl, hr⟩ := hs
      have hwd : (Cond.arrayClass .byte).before args s = true := hts _ (mi_in3 (List.mem_of_getElem? (i := 2) rfl))
      have hid : s.vm.findClass ("[" ++ (FieldType.byte).toString) = some (ids 2) := (hK.2 2 _ rfl).2
      refine va_newa (atype := .byte) (ty := .byte) (a0 := (n.toNatClampNeg, .inl (fun _ => 0))) hx hb hwd rfl hK hP hD hS hA (fun cA => rfl) h0 rfl ?_ hRc hRs hd (fun q cA H1 hK1 hP1 hD1 hS1 => ?_)
      · have hcb : componentBytes FieldType.byte ≤ 8 := by decide
        have := Nat.mul_le_mul (Nat.le_of_lt h1) hcb
        exact Nat.le_trans this (Nat.le_of_ble_eq_true rfl)
      · have hid2 : s.vm.findClass ("[" ++ (FieldType.byte).toString) = some cA := (hK1.2 5 _ rfl).2
        have hcA : cA = ids 2 := Option.some.inj (hid2.symm.trans hid)
        subst hcA
        exact kk _ _ _ _ (mi_le_app _ q) ⟨_, mi_rw_push hrw (by rfl), hP1, hD1, hS1⟩ (mi_rl_c ⟨q, mi_last_ad hrw q, rfl⟩ (mi_rl_mono (mi_le_app _ q) hr))
    next => cases hh
  next => cases hh
theorem mi_narz_ok (hx : p.tables.exec = Jvm.exec) (hb : c.code = cc) (hts : ∀ w ∈ mi_need, w.before args s = true) (hK : va_K D mi_cl (mi_tys ids) s) (hA : ∀ q, s.heap.size ≤ q → A q) (hRc : c' ≤ R.cells) (hRs : s' ≤ R.slots) (hd : decode cc pc = .ok (.newarray .boolean, 2)) (hh : mi_nar 3 (fun n => (n, .inl (fun _ => 0))) (pc + 2) st h cells slots = some (pc', st', h', c', s')) (hw : mi_Wd D ids cn A s ad h H locs) (hs : mi_rl ad cn st sw) (kk : mi_KH p l e R s m args below meth c Q D ids cn A ls ad pc' st' h' c' s') : W p l e R s m args below meth c H locs cells slots Q (F0 m pc ls sw) := by
  unfold mi_nar at hh
  split at hh
  next n r =>
    split at hh
    next hin =>
      cases hh
      have hin' := mi_inb_ok hin
      have h0 : ¬ n < 0 := fun q => hin' (Or.inl q)
      have h1 : n.toNatClampNeg < 200001 := Nat.not_le.mp fun q => hin' (Or.inr q)
      obtain ⟨ws, hrw, hP, hD, hS⟩ := hw
      obtain ⟨_, rw', rfl, rfl, hr⟩ := hs
      have hwd : (Cond.arrayClass .boolean).before args s = true := hts _ (mi_in3 (List.mem_of_getElem? (i := 3) rfl))
      have hid : s.vm.findClass ("[" ++ (FieldType.boolean).toString) = some (ids 3) := (hK.2 3 _ rfl).2
      refine va_newa (atype := .boolean) (ty := .boolean) (a0 := (n.toNatClampNeg, .inl (fun _ => 0))) hx hb hwd rfl hK hP hD hS hA (fun cA => rfl) h0 rfl ?_ hRc hRs hd (fun q cA H1 hK1 hP1 hD1 hS1 => ?_)
      · have hcb : componentBytes FieldType.boolean ≤ 8 := by decide
        have := Nat.mul_le_mul (Nat.le_of_lt h1) hcb
        exact Nat.le_trans this (Nat.le_of_ble_eq_true rfl)
      · have hid2 : s.vm.findClass ("[" ++ (FieldType.boolean).toString) = some cA := (hK1.2 5 _ rfl).2
        have hcA : cA = ids 3 := Option.some.inj (hid2.symm.trans hid)
        subst hcA
        exact kk _ _ _ _ (mi_le_app _ q) ⟨_, mi_rw_push hrw (by rfl), hP1, hD1, hS1⟩ (mi_rl_c ⟨q, mi_last_ad hrw q, rfl⟩ (mi_rl_mono (mi_le_app _ q) hr))
    next => cases hh
  next => cases hh
theorem mi_nofl : ∀ i, i < 11 → (match mi_cl[i]? with | some q => (List.range q.2.2).all (fun j => decide (mi_ty i j ≠ .float)) | none => true) = true := by decide +kernel
theorem mi_kl_ok : ∀ o, o < mi_no → ∀ x ∈ mi_kl o, x.2 < 11 := by decide +kernel
theorem mi_dflt {ty : FieldType} (h : ty ≠ .float) (ad : List Nat) (cn : Nat → Nat) : mi_rv ad cn (defaultValue ty) (defaultValue ty) := by
  cases ty <;> first | exact absurd rfl h | rfl
theorem mi_dflts (ad : List Nat) (cn : Nat → Nat) (f : Nat → FieldType) : ∀ (js : List Nat), (∀ j ∈ js, f j ≠ .float) → mi_rl ad cn (js.map (fun j => defaultValue (f j))) (js.map (fun j => defaultValue (f j)))
  | [], _ => rfl
  | j :: js, h => ⟨_, _, rfl, mi_dflt (h j List.mem_cons_self) ad cn, mi_dflts ad cn f js (fun i hi => h i (List.mem_cons_of_mem _ hi))⟩
theorem mi_new_ok (hx : p.tables.exec = Jvm.exec) (hb : c.code = cc) {o : Nat} (ho : o < mi_no) (hown : s.vm.findClass (mi_on o) = some m.cls) (hts : ∀ w ∈ mi_need, w.before args s = true) (hK : va_K D mi_cl (mi_tys ids) s) (hA : ∀ q, s.heap.size ≤ q → A q) (hRc : c' ≤ R.cells) (hRs : s' ≤ R.slots) {idx : Nat} (hd : decode cc pc = .ok (.new idx, 3)) (hh : mi_new o idx (pc + 3) st h cells slots = some (pc', st', h', c', s')) (hw : mi_Wd D ids cn A s ad h H locs) (hs : mi_rl ad cn st sw) (kk : mi_KH p l e R s m args below meth c Q D ids cn A ls ad pc' st' h' c' s') : W p l e R s m args below meth c H locs cells slots Q (F0 m pc ls sw) := by
  unfold mi_new at hh
  split at hh
  next ci hf =>
    have hm := mi_lk_mem hf
    split at hh
    next q hq =>
      cases hh
      obtain ⟨hqm, hty, hnm, hT1, hqn⟩ := mi_clok hq
      obtain ⟨ws, hrw, hP, hD, hS⟩ := hw
      have hci : ci < 11 := mi_kl_ok o ho _ hm
      have hnf := mi_nofl ci hci
      rw [hq] at hnf
      have hnf' : ∀ j ∈ List.range q.2.2, mi_ty ci j ≠ .float := fun j hj => by
        have := List.all_eq_true.mp hnf j hj
        simpa using this
      have hlink := hts (mi_klw o (idx, ci)) (mi_in2 ho (List.mem_append_right _ (List.mem_append_right _ (List.mem_append_left _ (List.mem_map.mpr ⟨_, hm, rfl⟩)))))
      unfold mi_klw at hlink
      rw [show mi_cl[((idx, ci) : Nat × Nat).2]? = some q from hq] at hlink
      refine va_new (C := q.1) (T := q.2.1) (N := q.2.2) (index := idx) (fs := (List.range q.2.2).map (fun j => defaultValue (mi_ty ci j))) hx hb hts (fun w hw => mi_in0 hqm (List.mem_append_left _ hw)) (mi_ty ci) hty hown hlink (hts _ (mi_in0 hqm (List.mem_append_right _ List.mem_cons_self))) (hts _ (mi_in0 hqm (List.mem_append_right _ (List.mem_cons_of_mem _ List.mem_cons_self)))) hK hP hD hS hA hq (fun j hj => ?_) hRc hRs hd (fun z H1 hP1 hD1 hS1 => ?_)
      · show defaultValue (mi_ty ci j) = ((List.range q.2.2).map (fun j => defaultValue (mi_ty ci j))).getD j .null
        rw [List.getD_eq_getElem?_getD, List.getElem?_map, List.getElem?_range hj]
        rfl
      · exact kk _ _ _ _ (mi_le_app _ z) ⟨_, mi_rw_push hrw ⟨_, rfl, mi_dflts _ _ _ _ hnf'⟩, hP1, hD1, hS1⟩ (mi_rl_c ⟨z, mi_last_ad hrw z, rfl⟩ (mi_rl_mono (mi_le_app _ z) hs))
    next => cases hh
  next => cases hh
theorem mi_sl_ok : ∀ o, o < mi_no → ∀ x ∈ mi_sl o, (match mi_sw[x.2]? with | some y => decide (y.1 = mi_on o) && decide (y.2.1 = x.1) | none => false) = true := by decide +kernel
/-- String constants, as the tables have them -/
def mi_Gr (cn : Nat → Nat) (s : State) : Prop := ∀ (i : Nat) (x : String × Nat × String), mi_sw[i]? = some x → vk_R x.1 x.2.1 x.2.2 (cn (4 * i)) s
theorem mi_str {o : Nat} (ho : o < mi_no) (hR : mi_Gr cn s) {idx i : Nat} (hf : mi_lk (mi_sl o) idx = some i) : ∃ tx, vk_R (mi_on o) idx tx (cn (4 * i)) s := by
  have hm := mi_lk_mem hf
  have h1 := mi_sl_ok o ho _ hm
  split at h1
  next y hy =>
    simp only [Bool.and_eq_true, decide_eq_true_eq] at h1
    have h2 := hR _ _ hy
    rw [h1.1, h1.2] at h2
    exact ⟨_, h2⟩
  next => cases h1
theorem mi_il_in {o idx : Nat} {v : Int32} (ho : o < mi_no) (hf : mi_lk (mi_il o) idx = some v) : Cond.constant (mi_on o) idx v ∈ mi_need :=
  mi_in2 ho (List.mem_append_right _ (List.mem_append_right _ (List.mem_append_right _ (List.mem_append_right _ (List.mem_append_right _ (List.mem_append_left _ (List.mem_map.mpr ⟨_, mi_lk_mem hf, rfl⟩)))))))
theorem mi_jl_in {o idx : Nat} {v : Int64} (ho : o < mi_no) (hf : mi_lk (mi_jl o) idx = some v) : Cond.constantLong (mi_on o) idx v ∈ mi_need :=
  mi_in2 ho (List.mem_append_right _ (List.mem_append_right _ (List.mem_append_right _ (List.mem_append_right _ (List.mem_append_right _ (List.mem_append_right _ (List.mem_append_left _ (List.mem_map.mpr ⟨_, mi_lk_mem hf, rfl⟩))))))))
theorem mi_gl_in {o idx g : Nat} (ho : o < mi_no) (hf : mi_lk (mi_gl o) idx = some g) : mi_glw o (idx, g) ∈ mi_need :=
  mi_in2 ho (List.mem_append_right _ (List.mem_append_right _ (List.mem_append_right _ (List.mem_append_right _ (List.mem_append_right _ (List.mem_append_right _ (List.mem_append_right _ (List.mem_append_right _ (List.mem_map.mpr ⟨_, mi_lk_mem hf, rfl⟩)))))))))
theorem mi_ldc_ok (hx : p.tables.exec = Jvm.exec) (hb : c.code = cc) {o : Nat} (ho : o < mi_no) (hown : s.vm.findClass (mi_on o) = some m.cls) (hts : ∀ w ∈ mi_need, w.before args s = true) (hR : mi_Gr cn s) {idx : Nat} (hd : decode cc pc = .ok (.ldc idx, 2)) (hh : mi_ldc o idx (pc + 2) st h cells slots = some (pc', st', h', c', s')) (hw : mi_Wd D ids cn A s ad h H locs) (hs : mi_rl ad cn st sw) (kk : mi_KH p l e R s m args below meth c Q D ids cn A ls ad pc' st' h' c' s') : W p l e R s m args below meth c H locs cells slots Q (F0 m pc ls sw) := by
  unfold mi_ldc at hh
  split at hh
  next v hf =>
    cases hh
    exact lv_ldc hx hb hown (hts _ (mi_il_in ho hf)) hd (kk _ _ _ _ (mi_le_rf _) hw (mi_rl_c rfl hs))
  next =>
    split at hh
    next i hf =>
      split at hh
      next hi =>
        cases hh
        obtain ⟨tx, hq⟩ := mi_str ho hR hf
        exact va_ldcS hx hb hown hq hd (kk _ _ _ _ (mi_le_rf _) hw (mi_rl_c rfl hs))
      next => cases hh
    next => cases hh
theorem mi_ldcw_ok (hx : p.tables.exec = Jvm.exec) (hb : c.code = cc) {o : Nat} (ho : o < mi_no) (hown : s.vm.findClass (mi_on o) = some m.cls) (hts : ∀ w ∈ mi_need, w.before args s = true) (hR : mi_Gr cn s) {idx : Nat} (hd : decode cc pc = .ok (.ldc_w idx, 3)) (hh : (match mi_lk (mi_il o) idx with
    | some v => some (pc + 3, .int v :: st, h, cells, slots)
    | none => (match mi_lk (mi_sl o) idx with
      | some i => if i < mi_nS then some (pc + 3, .retAddr (4 * i) :: st, h, cells, slots) else none
      | none => none)) = some (pc', st', h', c', s')) (hw : mi_Wd D ids cn A s ad h H locs) (hs : mi_rl ad cn st sw) (kk : mi_KH p l e R s m args below meth c Q D ids cn A ls ad pc' st' h' c' s') : W p l e R s m args below meth c H locs cells slots Q (F0 m pc ls sw) := by
  split at hh
  next v hf =>
    cases hh
    exact lv_ldcw hx hb hown (hts _ (mi_il_in ho hf)) hd (kk _ _ _ _ (mi_le_rf _) hw (mi_rl_c rfl hs))
  next =>
    split at hh
    next i hf =>
      split at hh
      next hi =>
        cases hh
        obtain ⟨tx, hq⟩ := mi_str ho hR hf
        intro T hT X
        obtain ⟨t, a1, b1⟩ := kk _ _ _ _ (mi_le_rf _) hw (mi_rl_c (v := .retAddr (4 * i)) rfl hs) T hT X
        exact ⟨t, X.ldcStringW hx hown (text := tx) (a := cn (4 * i)) hq.1 hq.2 (g := F0 m pc ls sw) rfl (by rw [hb]; exact hd) t a1, b1⟩
      next => cases hh
    next => cases hh
theorem mi_ldc2_ok (hx : p.tables.exec = Jvm.exec) (hb : c.code = cc) {o : Nat} (ho : o < mi_no) (hown : s.vm.findClass (mi_on o) = some m.cls) (hts : ∀ w ∈ mi_need, w.before args s = true) {idx : Nat} (hd : decode cc pc = .ok (.ldc2_w idx, 3)) (hh : mi_ldc2 o idx (pc + 3) st h cells slots = some (pc', st', h', c', s')) (hw : mi_Wd D ids cn A s ad h H locs) (hs : mi_rl ad cn st sw) (kk : mi_KH p l e R s m args below meth c Q D ids cn A ls ad pc' st' h' c' s') : W p l e R s m args below meth c H locs cells slots Q (F0 m pc ls sw) := by
  unfold mi_ldc2 at hh
  split at hh
  next v hf =>
    cases hh
    exact lv_ldc2 hx hb hown (hts _ (mi_jl_in ho hf)) hd (kk _ _ _ _ (mi_le_rf _) hw (mi_rl_c rfl hs))
  next => cases hh
theorem mi_gets_ok (hx : p.tables.exec = Jvm.exec) (hb : c.code = cc) {o : Nat} (ho : o < mi_no) (hown : s.vm.findClass (mi_on o) = some m.cls) (hts : ∀ w ∈ mi_need, w.before args s = true) {X : mi_X} (hG : mi_Gc X cn A s s.heap) {idx : Nat} (hd : decode cc pc = .ok (.getstatic idx, 3)) (hh : mi_gets o idx (pc + 3) st h cells slots = some (pc', st', h', c', s')) (hw : mi_Wd D ids cn A s ad h H locs) (hs : mi_rl ad cn st sw) (kk : mi_KH p l e R s m args below meth c Q D ids cn A ls ad pc' st' h' c' s') : W p l e R s m args below meth c H locs cells slots Q (F0 m pc ls sw) := by
  have hS := hw.choose_spec.2.2.2
  unfold mi_gets at hh
  split at hh
  next hf =>
    cases hh
    have hlink : (Cond.fieldLink (mi_on o) idx "jdk/internal/util/Preconditions" "SIOOBE_FORMATTER" "Ljava/util/function/BiFunction;").before args s = true := hts _ (mi_gl_in ho hf)
    obtain ⟨-, -, hZ, -⟩ := hG
    rcases hZ with hZ | ⟨t, hZ⟩
    · exact va_gets hx hb hZ hS hown hlink (fun _ hx => hx) hd (kk _ _ _ _ (mi_le_rf _) hw (mi_rl_c (Or.inl rfl) hs))
    · exact va_gets hx hb hZ hS hown hlink (fun _ hx => hx) hd (kk _ _ _ _ (mi_le_rf _) hw (mi_rl_c (Or.inr ⟨t, rfl⟩) hs))
  next hf =>
    cases hh
    have hlink : (Cond.fieldLink (mi_on o) idx "java/lang/String" "COMPACT_STRINGS" "Z").before args s = true := hts _ (mi_gl_in ho hf)
    obtain ⟨-, -, -, hZ, -⟩ := hG
    exact va_gets hx hb hZ hS hown hlink (fun _ hx => hx) hd (kk _ _ _ _ (mi_le_rf _) hw (mi_rl_c rfl hs))
  next => cases hh
end MIH

