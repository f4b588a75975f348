/-! THE CLAIM OUT OF ONE WALK OF THE LAW'S BODY. Your part is whole_start (and what it stands on); all else here is the same for every law, but numbers. -/
def R_law : String := "TypeLoomLaw"
def lw_P (b : Addr) (xs : List Int32) (args : Array Value) (s : State) : Prop := args = #[.ref b] ∧ s.IntsAt b xs ∧ xs.length ≤ 260 ∧ (Jvm.Cond.and given_1 narrow_1).before args s = true
def lw_Q (_ : Array Value) (s : State) (o : Outcome) (t : State) : Prop := o = .returned (some (.int 1)) ∧ Framed s o t [] 600086 7301442
def lw_Z (below : List Frame) (a : Array Value) (s : State) : State → Prop := fun t => ∃ o, t.status = .running ∧ Ended t below o ∧ lw_Q a s o t
/-- the law's own end, with 1 on the stack, nothing written that was there before, its room as the claim has it -/
theorem lw_ret {p : Program} {l : Launch} {e : Env} {s : State} {m : MethodId} {below : List Frame} {meth : Method} {c : Code} {b : Nat} (hx : p.tables.exec = Jvm.exec) (hb : c.code = code) (hr : meth.sig.returnType = ret) (hlocks : meth.locks = false) {pc : Nat} {H : Heap} {ls : Array Slot} (hdg : decode code pc = .ok (.ireturn, 1)) : W p l e room_1 s m #[Value.ref b] below meth c H [] 600086 7301442 (lw_Z below #[Value.ref b] s) (F0 m pc ls [.int 1]) := by
  intro T hT X
  obtain ⟨fs, hret, hrun, hended, hW, hframe⟩ := X.leave (v := some (.int 1)) (hlocks := hlocks) (fun h => by rw [hr] at h; cases h)
  have hmeth' : T.vm.method? m = some meth := X.method'
  refine ⟨T.setFrames fs, ?_, .returned (some (.int 1)), hrun, hended, rfl, ⟨_, rfl⟩, hW, hframe⟩
  jvm_step X.here [X.here.top, hx, hb, hdg, hmeth', hr, ret, narrow_b1]
  (try refine ⟨rfl, ?_⟩); (try refine ⟨rfl, ?_⟩)
  first | (intro acts; rw [hret _ acts rfl rfl rfl]) | rw [hret _ _ rfl rfl rfl]
  exact Steps.refl _
/-- what holds at the law's entry: the machine, the code, the tables' words (any of lw_tbl by 'hts w (by decide +kernel)'), the script of L ints xs at the cell b, what the Statement gives of the start (any of its parts by flat_of_before) -/
def lw_At (p : Program) (s : State) (m : MethodId) (meth : Method) (c : Code) (b L : Nat) (xs : Nat → Int32) : Prop :=
  p.tables.exec = Jvm.exec ∧ c.code = code ∧ meth.sig.returnType = ret ∧ c.maxLocals = 10 ∧ s.vm.findClass R_law = some m.cls ∧ (∀ w ∈ lw_tbl, w.before #[Value.ref b] s = true) ∧ va_X b L xs s s.heap ∧ b < s.heap.size ∧ meth.locks = false ∧ (Jvm.Cond.and given_1 narrow_1).before #[Value.ref b] s = true
/-! ===== the law, from its entry, by a run ===== -/
set_option maxRecDepth 100000 in
theorem mi_bad_in : ∀ w ∈ mi_bad, w ∈ lw_tbl := by decide +kernel
set_option maxRecDepth 100000 in
theorem mi_swl : mi_sw.length = mi_nS := by decide +kernel
theorem mi_GlOf {b L : Nat} {xs : Nat → Int32} {s : State} (hts : ∀ w ∈ lw_tbl, w.before #[Value.ref b] s = true) (hp : ∀ w ∈ mi_prem, w.before #[Value.ref b] s = true) (hX : va_X b L xs s s.heap) (hbl : b < s.heap.size) :
    ∃ (cn : Nat → Nat) (ids : Nat → ClassId) (D : va_G), cn 3 = b ∧ mi_Gl (some (L, xs)) cn ids D s.heap.size s := by
  have hA : ∀ a : Nat, a < s.heap.size → ¬ (fun q : Nat => s.heap.size ≤ q) a := fun a h => Nat.not_le.mpr h
  have hn : ∀ w ∈ mi_need, w.before #[Value.ref b] s = true := fun w hw => hts w (mi_gn w hw).1
  obtain ⟨D, hD⟩ := mi_ckof hn
  obtain ⟨c0, k0, f0⟩ := mi_tyof (hn _ (mi_in3 (w := .arrayClass .int) (by decide +kernel)))
  obtain ⟨c1, k1, f1⟩ := mi_tyof (hn _ (mi_in3 (w := .arrayClass .long) (by decide +kernel)))
  obtain ⟨c2, k2, f2⟩ := mi_tyof (hn _ (mi_in3 (w := .arrayClass .byte) (by decide +kernel)))
  obtain ⟨c3, k3, f3⟩ := mi_tyof (hn _ (mi_in3 (w := .arrayClass .boolean) (by decide +kernel)))
  have h0 : ∀ i : Nat, ∃ q : Nat × Nat, i < mi_nS → (mi_own i).eval #[Value.ref b] s none [] s = some (.ref q.1) ∧ va_O "java/lang/String" q.1 (fun q : Nat => s.heap.size ≤ q) s s.heap ∧ va_OF "java/lang/String" "coder" "B" (.int 0) q.1 (fun q : Nat => s.heap.size ≤ q) s s.heap ∧ va_OF "java/lang/String" "value" "[B" (.ref q.2) q.1 (fun q : Nat => s.heap.size ≤ q) s s.heap ∧ va_T .byte q.2 (mi_byt.getD i []).length (fun j => .int ((mi_byt.getD i []).getD j 0)) (fun q : Nat => s.heap.size ≤ q) s s.heap := fun i => by
    by_cases hi : i < mi_nS
    · obtain ⟨q, hq⟩ := mi_strs hp hA i hi
      exact ⟨q, fun _ => hq⟩
    · exact ⟨(0, 0), fun h => absurd h hi⟩
  obtain ⟨ad, had⟩ := Classical.axiomOfChoice h0
  obtain ⟨p4, p5, p6, p7⟩ := mi_kp_ok
  have tw : ∀ (w : Cond), w ∈ mi_tw → w.before #[Value.ref b] s = true := fun w hw => hts w (mi_tw_ok w hw)
  obtain ⟨c4, k4, f4⟩ := mi_aoof (tw (.arrayOver (.object "java/lang/String")) (by decide +kernel))
  have hpp : ∀ {i : Nat} {w : Cond}, mi_prem[i]? = some w → w.before #[Value.ref b] s = true := fun h => hp _ (List.mem_of_getElem? h)
  let cn : Nat → Nat := fun n => if n = 2 then b else if n = 3 then b else if n % 4 = 0 then (ad (n / 4)).1 else (ad (n / 4)).2
  have e0 : ∀ i : Nat, cn (4 * i) = (ad i).1 := fun i => by
    show (if 4 * i = 2 then b else if 4 * i = 3 then b else if 4 * i % 4 = 0 then (ad (4 * i / 4)).1 else (ad (4 * i / 4)).2) = _
    rw [if_neg (by omega), if_neg (by omega), if_pos (by omega), show 4 * i / 4 = i by omega]
  have e1 : ∀ i : Nat, cn (4 * i + 1) = (ad i).2 := fun i => by
    show (if 4 * i + 1 = 2 then b else if 4 * i + 1 = 3 then b else if (4 * i + 1) % 4 = 0 then (ad ((4 * i + 1) / 4)).1 else (ad ((4 * i + 1) / 4)).2) = _
    rw [if_neg (by omega), if_neg (by omega), if_neg (by omega), show (4 * i + 1) / 4 = i by omega]
  have e3 : cn 3 = b := rfl
  refine ⟨cn, fun k => if k = 0 then c0 else if k = 1 then c1 else if k = 2 then c2 else if k = 3 then c3 else c4, D, rfl, ?_, ⟨?_, trivial, ?_, ?_, ?_⟩, ?_, ?_, ?_, ?_, ?_⟩
  · refine ⟨hD, fun k q h => ?_⟩
    match k, h with
    | 0, h => cases h; exact ⟨k0, f0⟩
    | 1, h => cases h; exact ⟨k1, f1⟩
    | 2, h => cases h; exact ⟨k2, f2⟩
    | 3, h => cases h; exact ⟨k3, f3⟩
    | 4, h => cases h; exact ⟨k4, f4⟩
    | k + 5, h => simp [mi_tys] at h
  · intro i hi
    rw [e0 i, e1 i]
    exact (had i hi).2
  · exact va_Zqof (tw _ (by decide +kernel)) (tw _ (by decide +kernel)) (hpp p5) hA
  · exact va_Zof (tw _ (by decide +kernel)) (tw _ (by decide +kernel)) (va_eqi (hpp p4)) hA
  · exact ⟨hX, hbl, hA b hbl⟩
  · intro i x hx
    have hi : i < mi_nS := by
      have := (List.getElem?_eq_some_iff.mp hx).1
      rw [mi_swl] at this
      exact this
    have hm : Cond.stringRef x.1 x.2.1 x.2.2 ∈ mi_sw.map (fun x => Cond.stringRef x.1 x.2.1 x.2.2) := List.mem_map.mpr ⟨x, List.mem_of_getElem? hx, rfl⟩
    have hw := hts _ (mi_nth mi_spl mi_sr_ok _ hm)
    have hev := (had i hi).1
    have hg : mi_sw.getD i ("", 0, "") = x := by rw [List.getD_eq_getElem?_getD, hx]; rfl
    unfold mi_own at hev
    rw [hg] at hev
    rw [e0 i]
    exact vk_R.of hw hev
  · exact fun w hw => va_Nw.of (mi_bw_on (mi_bad_bw w hw)) (hts w (mi_bad_in w hw))
  · exact vx_Zqof (tw _ (by decide +kernel)) (tw _ (by decide +kernel)) (hpp p6) hA
  · exact vx_Zqof (tw _ (by decide +kernel)) (tw _ (by decide +kernel)) (hpp p7) hA
  · exact va_AO.of (tw _ (by decide +kernel))
set_option maxHeartbeats 1000000 in
/-- the law, from its entry to its end with true, out of a run -/
theorem mi_lawW {p : Program} {e : Env} {s : State} {m : MethodId} {below : List Frame} {meth : Method} {c : Code} (l : Launch) (hflags : l.flags = flags0) {b L : Nat} {xs : Nat → Int32} (C0 : lw_At p s m meth c b L xs) {n d c' s' : Nat} {h' : mi_H} (hd : d ≤ 2048) (hd2 : 40 * d ≤ 84000)
    (hrun : mi_run (some (L, xs)) n d mi_ML 0 [(0, .retAddr 3)] [] [] 0 0 = some (.inl (some (.int 1)), h', c', s')) (hc : c' ≤ 600086) (hs' : s' ≤ 7301442) : W p l e room_1 s m #[Value.ref b] below meth c s.heap [] 0 0 (lw_Z below #[Value.ref b] s) (entryFrame m ([Value.ref b] : List Value).toArray 10) := by
  obtain ⟨hx, hb, hr, hml, hown, hts, hX, hbl, hlocks, hgv⟩ := C0
  have hp : ∀ w ∈ mi_prem, w.before #[Value.ref b] s = true := flat_of_before _ hgv
  obtain ⟨cn, ids, D, e3, hGl⟩ := mi_GlOf hts hp hX hbl
  have hn : ∀ w ∈ mi_need, w.before #[Value.ref b] s = true := fun w hw => hts w (mi_gn w hw).1
  have F : mi_Fr p l room_1 s m #[Value.ref b] meth c mi_ML d (some (L, xs)) cn ids D (fun q : Nat => s.heap.size ≤ q) s.heap.size :=
    ⟨⟨hx, hb, hr, hml, hlocks, fun h => absurd h (by decide), fun h => absurd rfl h, hown⟩, hn, fun _ h => h, fun _ h => h, Nat.le_refl _, hGl, hd, hd2, mi_st0 hflags⟩
  have hl := lv_entry ([.ref b]) (n := 10) (Nat.le_of_ble_eq_true rfl)
  rw [lg_entry_eq]
  generalize (lg_sl ([.ref b]) ++ List.replicate (10 - (lg_sl ([.ref b])).length) Slot.unset).toArray = ls at hl ⊢
  have hl : lv_has ls 10 [(0, .ref b)] := hl
  refine (mi_sound (some (L, xs)) n d mi_ML 0 [(0, .retAddr 3)] [] [] 0 0 _ mi_okL hrun).2 p l e room_1 s m #[Value.ref b] below meth c s.heap [] _ cn ids D _ s.heap.size [] [(0, .ref b)] [] ls F ?_ ?_ hl ?_ ?_ rfl ?_
  · exact hc
  · exact hs'
  · exact ⟨.ref b, [], rfl, by rw [← e3]; exact rfl, rfl⟩
  · exact ⟨[], ⟨rfl, rfl, fun k o h => by simp at h⟩, fun k q h => by simp at h, ⟨fun i j p q h => by simp at h, fun k q h => by simp at h⟩, va_S.rf⟩
  · intro H' locs' ad' pc' ls' sw' i st' hle hdec hret hrl hw
    have hdec' : decode code pc' = .ok (i, 1) := hdec
    have hr2 : i = .ireturn ∧ st' = [.int 1] := by
      have hM : mi_rt mi_ML = some .boolean := rfl
      unfold mi_ret at hret
      rw [hM] at hret
      split at hret
      next => rw [if_neg (by decide)] at hret; cases hret
      next v =>
        dsimp only at hret
        split at hret
        next => cases hret; exact ⟨rfl, rfl⟩
        next => cases hret
      next => rw [if_neg (by decide)] at hret; cases hret
      next => rw [if_neg (by decide)] at hret; cases hret
      next => cases hret
    obtain ⟨rfl, rfl⟩ := hr2
    obtain ⟨w, ws', rfl, hv, hnil⟩ := hrl
    have hv' : w = .int 1 := hv
    have hnil' : ws' = [] := hnil
    subst hv' hnil'
    obtain ⟨ws, -, -, -, hS⟩ := hw
    refine va_forget (fun q hq => hS.2.2 q hq) ?_
    refine W.widen (k := 600086) (n := 7301442) hc hs' ?_
    exact lw_ret hx hb hr hlocks hdec'
