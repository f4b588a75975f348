/-! ===== what a method is given, and how a next method is given it ===== -/
def mi_bw : Cond → Bool
  | .declares _ => true
  | .castable _ _ => true
  | .methodLinkNest _ _ _ _ => true
  | .fieldLinkNest _ _ _ _ _ _ => true
  | _ => false
theorem mi_bad_bw : ∀ w ∈ mi_bad, mi_bw w = true := by decide +kernel
theorem mi_bw_on {w : Cond} (h : mi_bw w = true) : w.onTables = true := by
  cases w <;> first | rfl | (exact absurd h (by decide)) | (exact absurd h Bool.false_ne_true)
theorem mi_bw_warm {w : Cond} {s U : State} (h : mi_bw w = true) (hW : s.WarmedH U.vm) (hZ : va_Nw w s) : va_Nw w U := by
  cases w <;> first
    | exact va_Nw.warmD hW hZ
    | exact va_Nw.warmC hW hZ
    | exact va_Nw.warmM hW hZ
    | exact va_Nw.warmF hW hZ
    | (exact absurd h Bool.false_ne_true)
/-- all that is known at a state, but the class's and the reference's own cells; sz0: where the old cells end -/
def mi_Gl (X : mi_X) (cn : Nat → Nat) (ids : Nat → ClassId) (D : va_G) (sz0 : Nat) (U : State) : Prop :=
  va_K D mi_cl (mi_tys ids) U ∧ mi_Gc X cn (fun q => sz0 ≤ q) U U.heap ∧ mi_Gr cn U ∧ (∀ w ∈ mi_bad, va_Nw w U) ∧
  vx_Zq Bundle.tN "UNASSIGNED_STACK" Bundle.steD (fun q => sz0 ≤ q) U U.heap ∧ vx_Zq Bundle.tN "SUPPRESSED_SENTINEL" Bundle.listD (fun q => sz0 ≤ q) U U.heap ∧ va_AO "java/lang/String" U
theorem mi_Gs_next {cn : Nat → Nat} {A : Nat → Prop} {s U : State} (hvm : s.vm.Alike U.vm) (hq : ∀ a : Nat, a < s.heap.size → ¬ A a → U.heap[a]? = s.heap[a]?) (h : mi_Gs cn A s s.heap) : mi_Gs cn A U U.heap := fun i hi => by
  obtain ⟨h1, h2, h3, h4⟩ := h i hi
  exact ⟨va_O.moved hvm (h1.kept hq), va_OF.moved hvm (h2.kept hq), va_OF.moved hvm (h3.kept hq), va_T.moved hvm (h4.kept hq)⟩
theorem mi_Gs_nar {cn : Nat → Nat} {A B : Nat → Prop} {s : State} {H : Heap} (hAB : ∀ q, B q → A q) (h : mi_Gs cn A s H) : mi_Gs cn B s H := fun i hi => by
  obtain ⟨h1, h2, h3, h4⟩ := h i hi
  exact ⟨h1.narrow hAB, h2.narrow hAB, h3.narrow hAB, h4.narrow hAB⟩
theorem mi_Gc_next {X : mi_X} {cn : Nat → Nat} {A : Nat → Prop} {s U : State} (hvm : s.vm.Alike U.vm) (hz : s.heap.size ≤ U.heap.size) (hq : ∀ a : Nat, a < s.heap.size → ¬ A a → U.heap[a]? = s.heap[a]?) (h : mi_Gc X cn A s s.heap) : mi_Gc X cn A U U.heap := by
  obtain ⟨h1, -, h4, h5, h6⟩ := h
  refine ⟨mi_Gs_next hvm hq h1, trivial, va_Zq.moved hvm (h4.kept hq), va_Z.moved hvm (h5.kept hq), ?_⟩
  cases X with
  | none => exact trivial
  | some x =>
    obtain ⟨g1, g2, g3⟩ := h6
    exact ⟨va_X.moved hvm (g1.kept (hq _ g2 g3)), Nat.lt_of_lt_of_le g2 hz, g3⟩
theorem mi_Gc_nar {X : mi_X} {cn : Nat → Nat} {A B : Nat → Prop} {s : State} {H : Heap} (hAB : ∀ q, B q → A q) (h : mi_Gc X cn A s H) : mi_Gc X cn B s H := by
  obtain ⟨h1, -, h4, h5, h6⟩ := h
  refine ⟨mi_Gs_nar hAB h1, trivial, h4.narrow hAB, h5.narrow hAB, ?_⟩
  cases X with
  | none => exact trivial
  | some x => exact ⟨h6.1, h6.2.1, fun q => h6.2.2 (hAB _ q)⟩
theorem mi_Gl_next {X : mi_X} {cn : Nat → Nat} {ids : Nat → ClassId} {D : va_G} {sz0 : Nat} {s U : State} (hW : s.WarmedH U.vm) (hz : s.heap.size ≤ U.heap.size) (hq : ∀ a : Nat, a < s.heap.size → ¬ sz0 ≤ a → U.heap[a]? = s.heap[a]?) (h : mi_Gl X cn ids D sz0 s) : mi_Gl X cn ids D sz0 U := by
  obtain ⟨h1, h2, h3, h4, h5, h6, h7⟩ := h
  have hvm := hW.alike
  exact ⟨va_K.moved hvm h1, mi_Gc_next hvm hz hq h2, fun i x hx => (h3 i x hx).warm hW, fun w hw => mi_bw_warm (mi_bad_bw w hw) hW (h4 w hw), vx_Zq.moved hvm (h5.kept hq), vx_Zq.moved hvm (h6.kept hq), va_AO.moved hvm h7⟩
theorem mi_Gl_call {X : mi_X} {cn : Nat → Nat} {ids : Nat → ClassId} {D : va_G} {sz0 : Nat} {s : State} {g : JFrame} {mk : MethodId} {a : Array Value} (h : mi_Gl X cn ids D sz0 s) : mi_Gl X cn ids D sz0 (s.calling g mk a) :=
  mi_Gl_next (U := s.calling g mk a) (State.WarmedH.refl s) (Nat.le_refl _) (fun _ _ _ => rfl) h
/-- the cells behind a call -/
def mi_Wc (D : va_G) (ids : Nat → ClassId) (cn : Nat → Nat) (ad : List Nat) (h : mi_H) (H : Heap) : Prop := ∃ ws, mi_rw ids ad cn h ws ∧ va_P D mi_cl ws H ∧ va_D (fun _ => True) ws
theorem mi_ws_ad {ids : Nat → ClassId} {ad : List Nat} {cn : Nat → Nat} {h : mi_H} {ws : va_W} (hw : mi_rw ids ad cn h ws) {k : Nat} {q : Nat × va_E} (hk : ws[k]? = some q) : ad[k]? = some q.1 := by
  have hl : k < h.length := by
    have := (List.getElem?_eq_some_iff.mp hk).1
    rw [hw.2.1] at this
    exact this
  obtain ⟨a, e, g1, g2, -⟩ := hw.2.2 k _ (List.getElem?_eq_getElem hl)
  rw [g2] at hk
  cases hk
  exact g1
theorem mi_Wd_of {D : va_G} {ids : Nat → ClassId} {cn : Nat → Nat} {A : Nat → Prop} {s : State} {ad : List Nat} {h : mi_H} {H : Heap} {locs : List Loc} (hc : mi_Wc D ids cn ad h H) (hA : ∀ a ∈ ad, A a) (hS : va_S A s.heap H locs) : mi_Wd D ids cn A s ad h H locs := by
  obtain ⟨ws, h1, h2, h3⟩ := hc
  exact ⟨ws, h1, h2, ⟨h3.1, fun k q hk => hA _ (List.mem_of_getElem? (mi_ws_ad h1 hk))⟩, hS⟩
theorem mi_Wc_of {D : va_G} {ids : Nat → ClassId} {cn : Nat → Nat} {A : Nat → Prop} {s : State} {ad : List Nat} {h : mi_H} {H : Heap} {locs : List Loc} (hw : mi_Wd D ids cn A s ad h H locs) : mi_Wc D ids cn ad h H ∧ (∀ a ∈ ad, A a) ∧ va_S A s.heap H locs := by
  obtain ⟨ws, h1, h2, h3, h4⟩ := hw
  refine ⟨⟨ws, h1, h2, h3.1, fun _ _ _ => trivial⟩, fun a ha => ?_, h4⟩
  obtain ⟨k, hk⟩ := List.mem_iff_getElem?.mp ha
  have hl : k < h.length := by
    have := (List.getElem?_eq_some_iff.mp hk).1
    rw [h1.1] at this
    exact this
  obtain ⟨a', e, g1, g2, -⟩ := h1.2.2 k _ (List.getElem?_eq_getElem hl)
  cases g1.symm.trans hk
  exact h3.2 k _ g2
/-- what a method is given -/
def mi_Fr (p : Program) (l : Launch) (R : Room) (s : State) (m : MethodId) (args : Array Value) (meth : Method) (c : Code) (M : mi_M) (d : Nat) (X : mi_X) (cn : Nat → Nat) (ids : Nat → ClassId) (D : va_G) (A : Nat → Prop) (sz0 : Nat) : Prop :=
  (p.tables.exec = Jvm.exec ∧ c.code = mi_bt M ∧ meth.sig.returnType = mi_rt M ∧ c.maxLocals = mi_nL M ∧ meth.locks = false ∧ (mi_kd M = 2 → meth.name = "<init>") ∧ (mi_kd M ≠ 4 → c.exceptionTable.toList = tableOf (mi_hd M)) ∧ s.vm.findClass (mi_on (mi_ow M)) = some m.cls) ∧
  (∀ w ∈ mi_need, w.before args s = true) ∧ (∀ q, s.heap.size ≤ q → A q) ∧ (∀ q, A q → sz0 ≤ q) ∧ sz0 ≤ s.heap.size ∧ mi_Gl X cn ids D sz0 s ∧ d ≤ R.frames ∧ 40 * d ≤ R.locals ∧ l.stackTraces = false
/-- a method's row is the machine's -/
theorem mi_mok_spec {M : mi_M} (h : mi_mok M = true) : plainFor (mi_y M) = true ∧ (mi_y M).cls ≠ "java/lang/invoke/MethodHandle" ∧ (mi_y M).cls ≠ "java/lang/invoke/VarHandle" ∧ (parseMethodDescriptor (mi_y M).desc).map (fun d => d.parameters.length) = some (mi_np M) ∧ (mi_y M).cls = mi_on (mi_ow M) ∧ mi_ow M < mi_no ∧ mi_nL M ≤ 20 ∧ (mi_kd M = 2 → (mi_y M).name = "<init>") ∧ (∀ q ∈ mi_cd M, decode (mi_bt M) q.1 = .ok q.2) ∧
    (∀ q ∈ mi_th M, decode (mi_bt M) q.1 = .ok (.new q.2.2.1, 3) ∧ decode (mi_bt M) (q.1 + 3) = .ok (.dup, 1) ∧ decode (mi_bt M) (q.1 + 4) = .ok (.ldc q.2.2.2.1, 2) ∧ decode (mi_bt M) (q.1 + 6) = .ok (.invokespecial q.2.2.2.2.1, 3) ∧ decode (mi_bt M) (q.1 + 9) = .ok (.athrow, 1) ∧ (mi_y M).cls = "TypeLoom" ∧ (q.2.1, q.2.2.2.2.1) ∈ mi_xs ∧ mi_kd M < 3 ∧ mi_lk (mi_xl (mi_ow M)) q.2.2.1 = some q.2.1 ∧ q.2.1 < 3 ∧ ∃ i, mi_lk (mi_sl (mi_ow M)) q.2.2.2.1 = some i ∧ i < mi_nS) ∧ (mi_kd M = 3 ∨ mi_hd M = []) := by
  simp only [mi_mok, Bool.and_eq_true, Bool.or_eq_true, decide_eq_true_eq, List.all_eq_true, Bool.not_eq_true', decide_eq_false_iff_not] at h
  have k1 := h.2.2.2.2.2.2.2
  refine ⟨h.1, h.2.1, h.2.2.1, h.2.2.2.1, h.2.2.2.2.1, h.2.2.2.2.2.1, h.2.2.2.2.2.2.1, fun q => k1.1.elim (fun z => absurd q z) id, k1.2.1.1, fun q hq => ?_, k1.2.2⟩
  have a := k1.2.1.2 q hq
  have a5 := a.2.2.2.2
  have a10 := a5.2.2.2.2.2
  refine ⟨a.1, a.2.1, a.2.2.1, a.2.2.2.1, a5.1, a5.2.1, a5.2.2.1, a5.2.2.2.1, a5.2.2.2.2.1, a10.1, ?_⟩
  have a11 := a10.2
  split at a11
  next i hi => exact ⟨i, hi, by simpa using a11⟩
  next => exact absurd a11 (by decide)
theorem mi_gf_pc {ci j k q c s c' s' pc' : Nat} {r st' : List Value} {h h' : mi_H} (hh : mi_gf ci j k q r h c s = some (pc', st', h', c', s')) : pc' = q := by
  unfold mi_gf at hh
  split at hh <;> first | (cases hh; done) | skip
  split at hh <;> first | (cases hh; done) | skip
  split at hh <;> first | (cases hh; done) | skip
  cases hh; rfl
theorem mi_getf_pc {o idx q c s c' s' pc' : Nat} {st st' : List Value} {h h' : mi_H} (hh : mi_getf o idx q st h c s = some (pc', st', h', c', s')) : pc' = q := by
  unfold mi_getf at hh
  split at hh
  next k r =>
    split at hh
    next x hf => exact mi_gf_pc hh
    next =>
      split at hh
      next x hf => exact mi_gf_pc hh
      next => cases hh
  next k r =>
    split at hh
    next j hf =>
      unfold mi_gs at hh
      split at hh
      next hk =>
        split at hh
        next => cases hh; rfl
        next =>
          split at hh
          next => cases hh; rfl
          next => cases hh
      next => cases hh
    next => cases hh
  next => cases hh
section MIG
variable {p : Program} {l : Launch} {e : Env} {R : Room} {s : State} {m : MethodId} {args : Array Value} {below : List Frame} {meth : Method} {c : Code} {H : Heap} {locs : List Loc} {cells slots : Nat} {Q : State → Prop}
variable {pc pc' c' s' d sz0 : Nat} {st st' : List Value} {h h' : mi_H} {ad : List Nat} {cn : Nat → Nat} {ids : Nat → ClassId} {D : va_G} {A : Nat → Prop} {sw : List Value} {ls : Array Slot} {X : mi_X} {M : mi_M}
theorem mi_mem_ok (hM : mi_mok M = true) (F : mi_Fr p l R s m args meth c M d X cn ids D A sz0) {i : Instr} {len : Nat} (hd : decode (mi_bt M) pc = .ok (i, len)) (hlen : len = mi_ml2 i) (hRc : c' ≤ R.cells) (hRs : s' ≤ R.slots) (hh : mi_mem X M i pc st h cells slots = some (pc', st', h', c', s'))
    (hw : mi_Wd D ids cn A s ad h H locs) (hs : mi_rl ad cn st sw) (kk : mi_KH p l e R s m args below meth c Q D ids cn A ls ad pc' st' h' c' s') : W p l e R s m args below meth c H locs cells slots Q (F0 m pc ls sw) := by
  obtain ⟨⟨hx, hb, -, -, -, hin2, -, hown⟩, hts, hA, hA0, -, hGl, -⟩ := F
  obtain ⟨hK, hG0, hR, hbad0, -, -, hAO⟩ := hGl
  have hG : mi_Gc X cn A s s.heap := mi_Gc_nar hA0 hG0
  have hbad : ∀ w ∈ mi_bad, w.before args s = true := fun w hw => va_Nw.use (mi_bw_on (mi_bad_bw w hw)) (hbad0 w hw)
  have ho := (mi_mok_spec hM).2.2.2.2.2.1
  subst hlen
  cases i
  case getfield idx => exact mi_getf_ok hx hb ho hown hts hK hbad hA hG hd hh hw hs (mi_getf_pc hh ▸ kk)
  case putfield idx => exact mi_putf_ok hx hb ho hown hts hK hin2 hd hh hw hs kk
  case iaload =>
    dsimp only [mi_mem] at hh
    split at hh
    next q hq => cases hh; exact mi_iald_ok hx hb hK hd hq hw hs kk
    next => exact mi_sld_ok hx hb hG hd hh hw hs kk
  case baload =>
    dsimp only [mi_mem] at hh
    split at hh
    next q hq => cases hh; exact mi_bald_ok hx hb hK hd hq hw hs kk
    next =>
      split at hh
      next q hq => cases hh; exact mi_zald_ok hx hb hK hd hq hw hs kk
      next => exact mi_bld_ok hx hb hG hd hh hw hs kk
  case laload => exact mi_lald_ok hx hb hK hd hh hw hs kk
  case aaload => exact mi_qld_ok hx hb hK hd hh hw hs kk
  case aastore => exact mi_qst_ok hx hb hK hG hd hh hw hs kk
  case anewarray idx => exact mi_qnw_ok hx hb ho hown hts hAO hK hA hRc hRs hd hh hw hs kk
  case iastore => exact mi_iast_ok hx hb hK hd hh hw hs kk
  case bastore =>
    dsimp only [mi_mem] at hh
    split at hh
    next q hq => cases hh; exact mi_bast_ok hx hb hK hd hq hw hs kk
    next => exact mi_zast_ok hx hb hK hd hh hw hs kk
  case lastore => exact mi_last_ok hx hb hK hd hh hw hs kk
  case arraylength => exact mi_alen_ok hx hb hK hG hd hh hw hs kk
  case newarray at' =>
    cases at'
    case int => exact mi_nari_ok hx hb hts hK hA hRc hRs hd hh hw hs kk
    case long => exact mi_narl_ok hx hb hts hK hA hRc hRs hd hh hw hs kk
    case byte => exact mi_narb_ok hx hb hts hK hA hRc hRs hd hh hw hs kk
    case boolean => exact mi_narz_ok hx hb hts hK hA hRc hRs hd hh hw hs kk
    all_goals (cases hh)
  case new idx => exact mi_new_ok hx hb ho hown hts hK hA hRc hRs hd hh hw hs kk
  case ldc idx => exact mi_ldc_ok hx hb ho hown hts hR hd hh hw hs kk
  case ldc_w idx => exact mi_ldcw_ok hx hb ho hown hts hR hd hh hw hs kk
  case ldc2_w idx => exact mi_ldc2_ok hx hb ho hown hts hd hh hw hs kk
  case getstatic idx => exact mi_gets_ok hx hb ho hown hts hG hd hh hw hs kk
  all_goals (cases hh)
end MIG

