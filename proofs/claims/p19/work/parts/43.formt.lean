/-! ===== the text of a type, as kinds of tokens, and the steps that the parser makes of it ===== -/
/-- w tells where it stands: 0 alone or at the right of an arrow, 1 at its left, 2 in a pair, 3 in a list -/
def tkf (w : Nat) : tr → List Int
  | .var _ => [15]
  | .add (.num t) (.add a (.add b _)) =>
    if t = 5 then (if 1 < w then 40 :: ((tkf 2 a ++ 42 :: tkf 2 b) ++ [41]) else tkf 2 a ++ 42 :: tkf 2 b)
    else if t = 6 then (if 0 < w then 40 :: ((tkf 1 a ++ 17 :: tkf 0 b) ++ [41]) else tkf 1 a ++ 17 :: tkf 0 b)
    else if t = 9 then (if w = 3 then 40 :: ((13 :: tkf 3 a) ++ [41]) else 13 :: tkf 3 a)
    else [13]
  | _ => []
/-- n arrows stand ahead of it -/
def stf (w n : Nat) (p : Int) : tr → List (Int × Int × Int)
  | .var _ => (5, p, 0) :: (if w = 0 then [(9, (n : Int), 0)] else [])
  | .add (.num t) (.add a (.add b _)) =>
    if t = 5 then (if 1 < w then (stf 2 0 (p + 1) a ++ (stf 2 0 (p + 1 + (tkf 2 a).length + 1) b ++ [(8, 0, 0)])) ++ [(9, 0, 0)] else (stf 2 0 p a ++ (stf 2 0 (p + (tkf 2 a).length + 1) b ++ [(8, 0, 0)])) ++ (if w = 0 then [(9, (n : Int), 0)] else []))
    else if t = 6 then (if 0 < w then stf 1 0 (p + 1) a ++ stf 0 1 (p + 1 + (tkf 1 a).length + 1) b else stf 1 0 p a ++ stf 0 (n + 1) (p + (tkf 1 a).length + 1) b)
    else if t = 9 then (if w = 3 then ((6, p + 1, 0) :: (stf 3 0 (p + 1 + 1) a ++ [(7, p + 1, 1)])) ++ [(9, 0, 0)] else ((6, p, 0) :: (stf 3 0 (p + 1) a ++ [(7, p, 1)])) ++ (if w = 0 then [(9, (n : Int), 0)] else []))
    else [(6, p, 0), (7, p, 0)] ++ (if w = 0 then [(9, (n : Int), 0)] else [])
  | _ => []
/-- trees that are types -/
def wt : tr → Prop
  | .var _ => True
  | .add (.num t) (.add a (.add b c)) => ((t = 1 ∨ t = 2) ∧ a = .num 0 ∧ b = .num 0 ∧ c = .num 0) ∨ ((t = 5 ∨ t = 6) ∧ wt a ∧ wt b ∧ c = .num 0) ∨ (t = 9 ∧ wt a ∧ b = .num 0 ∧ c = .num 0)
  | _ => False
def hg : tr → Nat
  | .add (.num _) (.add a (.add b _)) => 1 + max (hg a) (hg b)
  | _ => 0
theorem wt_c {e : tr} (h : wt e) : (∃ v, e = .var v) ∨ (e = tn 1 tr_0 tr_0 tr_0 ∨ e = tn 2 tr_0 tr_0 tr_0) ∨ (∃ a b, wt a ∧ wt b ∧ (e = tn 5 a b tr_0 ∨ e = tn 6 a b tr_0)) ∨ (∃ a, wt a ∧ e = tn 9 a tr_0 tr_0) := by
  unfold wt at h
  split at h
  next v => exact Or.inl ⟨v, rfl⟩
  next t a b c =>
    rcases h with ⟨h1, h2, h3, h4⟩ | ⟨h1, h2, h3, h4⟩ | ⟨h1, h2, h3, h4⟩
    · subst h2 h3 h4
      rcases h1 with rfl | rfl
      · exact Or.inr (Or.inl (Or.inl rfl))
      · exact Or.inr (Or.inl (Or.inr rfl))
    · subst h4
      rcases h1 with rfl | rfl
      · exact Or.inr (Or.inr (Or.inl ⟨a, b, h2, h3, Or.inl rfl⟩))
      · exact Or.inr (Or.inr (Or.inl ⟨a, b, h2, h3, Or.inr rfl⟩))
    · subst h1 h3 h4
      exact Or.inr (Or.inr (Or.inr ⟨a, h2, rfl⟩))
  next => exact absurd h id
section TK
variable {a b : tr} {w n v : Nat} {p : Int}
theorem tkf_v : tkf w (.var v) = [15] := by rw [tkf]
theorem tkf_1 : tkf w (tn 1 tr_0 tr_0 tr_0) = [13] := by unfold tn; rw [tkf]; rfl
theorem tkf_2 : tkf w (tn 2 tr_0 tr_0 tr_0) = [13] := by unfold tn; rw [tkf]; rfl
theorem tkf_5 : tkf w (tn 5 a b tr_0) = if 1 < w then 40 :: ((tkf 2 a ++ 42 :: tkf 2 b) ++ [41]) else tkf 2 a ++ 42 :: tkf 2 b := by unfold tn; rw [tkf]; exact if_pos rfl
theorem tkf_6 : tkf w (tn 6 a b tr_0) = if 0 < w then 40 :: ((tkf 1 a ++ 17 :: tkf 0 b) ++ [41]) else tkf 1 a ++ 17 :: tkf 0 b := by unfold tn; rw [tkf]; rfl
theorem tkf_9 : tkf w (tn 9 a tr_0 tr_0) = if w = 3 then 40 :: ((13 :: tkf 3 a) ++ [41]) else 13 :: tkf 3 a := by unfold tn; rw [tkf]; rfl
theorem stf_v : stf w n p (.var v) = (5, p, 0) :: (if w = 0 then [(9, (n : Int), 0)] else []) := by rw [stf]
theorem stf_1 : stf w n p (tn 1 tr_0 tr_0 tr_0) = [(6, p, 0), (7, p, 0)] ++ (if w = 0 then [(9, (n : Int), 0)] else []) := by unfold tn; rw [stf]; rfl
theorem stf_2 : stf w n p (tn 2 tr_0 tr_0 tr_0) = [(6, p, 0), (7, p, 0)] ++ (if w = 0 then [(9, (n : Int), 0)] else []) := by unfold tn; rw [stf]; rfl
theorem stf_5 : stf w n p (tn 5 a b tr_0) = if 1 < w then (stf 2 0 (p + 1) a ++ (stf 2 0 (p + 1 + (tkf 2 a).length + 1) b ++ [(8, 0, 0)])) ++ [(9, 0, 0)] else (stf 2 0 p a ++ (stf 2 0 (p + (tkf 2 a).length + 1) b ++ [(8, 0, 0)])) ++ (if w = 0 then [(9, (n : Int), 0)] else []) := by unfold tn; rw [stf]; exact if_pos rfl
theorem stf_6 : stf w n p (tn 6 a b tr_0) = if 0 < w then stf 1 0 (p + 1) a ++ stf 0 1 (p + 1 + (tkf 1 a).length + 1) b else stf 1 0 p a ++ stf 0 (n + 1) (p + (tkf 1 a).length + 1) b := by unfold tn; rw [stf]; rfl
theorem stf_9 : stf w n p (tn 9 a tr_0 tr_0) = if w = 3 then ((6, p + 1, 0) :: (stf 3 0 (p + 1 + 1) a ++ [(7, p + 1, 1)])) ++ [(9, 0, 0)] else ((6, p, 0) :: (stf 3 0 (p + 1) a ++ [(7, p, 1)])) ++ (if w = 0 then [(9, (n : Int), 0)] else []) := by unfold tn; rw [stf]; rfl
theorem hg_tn (t : Int) (a b c : tr) : hg (tn t a b c) = 1 + max (hg a) (hg b) := by unfold tn; rw [hg]
end TK
/-- a part of a list begins with one of these -/
theorem tkf_3 {e : tr} (h : wt e) : ∃ k r, tkf 3 e = k :: r ∧ (k = 13 ∨ k = 15 ∨ k = 40) := by
  rcases wt_c h with ⟨v, rfl⟩ | (rfl | rfl) | ⟨a, b, -, -, rfl | rfl⟩ | ⟨a, -, rfl⟩
  · exact ⟨15, [], tkf_v, by omega⟩
  · exact ⟨13, [], tkf_1, by omega⟩
  · exact ⟨13, [], tkf_2, by omega⟩
  · exact ⟨40, _, by rw [tkf_5, if_pos (by omega)], by omega⟩
  · exact ⟨40, _, by rw [tkf_6, if_pos (by omega)], by omega⟩
  · exact ⟨40, _, by rw [tkf_9, if_pos rfl], by omega⟩
theorem FS_c {X : mi_X} {d : Nat} {M : mi_M} {dd w : Int} {ts ts' : List Int} {l l' : Int → List (Int × Int × Int)} (h : FS X d M dd w ts l) (e : ts = ts') (e' : ∀ p, l p = l' p) : FS X d M dd w ts' l' := by
  subst e
  rw [show l = l' from funext e'] at h
  exact h
theorem FLP_c {X : mi_X} {d : Nat} {dd n : Int} {ts ts' : List Int} {l l' : Int → List (Int × Int × Int)} (h : FLP X d dd n ts l) (e : ts = ts') (e' : ∀ p, l p = l' p) : FLP X d dd n ts' l' := by
  subst e
  rw [show l = l' from funext e'] at h
  exact h
/-- the first piece of a form, and its arrows -/
def fm_0 (X : mi_X) (d : Nat) (dd : Int) (n : Nat) (e : tr) : Prop := ∃ (ts ts' : List Int) (l l' : Int → List (Int × Int × Int)), tkf 0 e = ts ++ ts' ∧ (∀ p, stf 0 n p e = l p ++ l' (p + ts.length)) ∧ FS X (d + 6) mi_M67 dd 1 ts l ∧ FLP X d dd n ts' l' ∧ (ts' = [] ∨ ∃ r, ts' = 17 :: r)
theorem fm_0_form {X : mi_X} {d : Nat} {dd : Int} {e : tr} (hdd : 0 ≤ dd ∧ dd ≤ 12) (h : fm_0 X d dd 0 e) : FS X (d + 7) mi_M66 dd 0 (tkf 0 e) (fun p => stf 0 0 p e) := by
  obtain ⟨ts, ts', l, l', e1, e2, h1, h2, h3⟩ := h
  exact FS_c (fm_form hdd h1 h2 h3) e1.symm (fun p => (e2 p).symm)
theorem fm_0_one {X : mi_X} {d : Nat} {dd : Int} {n : Nat} {e : tr} {ts : List Int} {l : Int → List (Int × Int × Int)} (hn : n < 290) (h : FS X (d + 6) mi_M67 dd 1 ts l) (e1 : tkf 0 e = ts) (e2 : ∀ p, stf 0 n p e = l p ++ [(9, (n : Int), 0)]) : fm_0 X d dd n e :=
  ⟨ts, [], l, fun _ => [(9, (n : Int), 0)], by rw [e1, List.append_nil], e2, h, fl_nil (by omega) (by omega), Or.inl rfl⟩
/-- a form in ( and ) -/
theorem fm_0_par {X : mi_X} {d : Nat} {dd : Int} {e : tr} (hdd : 0 ≤ dd ∧ dd + 1 ≤ 12) (h : fm_0 X (d + 4) (dd + 1) 0 e) : FS X (d + 12) mi_M73 dd 3 (40 :: (tkf 0 e ++ [41])) (fun p => stf 0 0 (p + 1) e) := fm_part_par (d := d + 8) (fm_0_form ⟨by omega, by omega⟩ h)
theorem fm_0_use {X : mi_X} {d : Nat} {dd : Int} {e : tr} (hdd : 0 ≤ dd ∧ dd + 1 ≤ 12) (h : fm_0 X (d + 4) (dd + 1) 0 e) : FS X (d + 13) mi_M68 dd 2 (40 :: (tkf 0 e ++ [41])) (fun p => stf 0 0 (p + 1) e) := fm_use_part (d := d + 8) (by omega) (by omega) (fm_0_par hdd h)
/-- what the parser makes of a type, wherever it stands -/
def FA (X : mi_X) (e : tr) : Prop :=
  (∀ (d : Nat) (dd : Int), 0 ≤ dd → dd + hg e ≤ 12 → FS X (d + 8 * hg e + 17) mi_M73 dd 3 (tkf 3 e) (fun p => stf 3 0 p e)) ∧
  (∀ (d : Nat) (dd : Int), 0 ≤ dd → dd + hg e ≤ 12 → FS X (d + 8 * hg e + 18) mi_M68 dd 2 (tkf 2 e) (fun p => stf 2 0 p e)) ∧
  (∀ (d : Nat) (dd : Int), 0 ≤ dd → dd + hg e ≤ 12 → FS X (d + 8 * hg e + 19) mi_M67 dd 1 (tkf 1 e) (fun p => stf 1 0 p e)) ∧
  (∀ (d : Nat) (dd : Int) (n : Nat), 0 ≤ dd → dd + hg e ≤ 12 → n + hg e < 290 → fm_0 X (d + 8 * hg e + 6) dd n e)
theorem FA_all (X : mi_X) : ∀ (m : Nat) (e : tr), hg e = m → wt e → FA X e := by
  intro m
  induction m using Nat.strongRecOn with
  | ind m ih =>
    intro e hm he
    rcases wt_c he with ⟨v, rfl⟩ | hI | ⟨a, b, ha, hb, hP⟩ | ⟨a, ha, rfl⟩
    · have P3 : ∀ (d : Nat) (dd : Int), FS X (d + 4) mi_M73 dd 3 [15] (fun p => [(5, p, 0)]) := fun d dd => fm_part_var
      have P2 : ∀ (d : Nat) (dd : Int), FS X (d + 5) mi_M68 dd 2 [15] (fun p => [(5, p, 0)]) := fun d dd => fm_use_part (by omega) (by omega) (P3 d dd)
      have P1 : ∀ (d : Nat) (dd : Int), FS X (d + 6) mi_M67 dd 1 [15] (fun p => [(5, p, 0)]) := fun d dd => fm_pair_1 (P2 d dd)
      refine ⟨fun d dd h0 h1 => ?_, fun d dd h0 h1 => ?_, fun d dd h0 h1 => ?_, fun d dd n h0 h1 h2 => ?_⟩
      · exact FS_c (P3 (d + 8 * hg (.var v) + 13) dd) tkf_v.symm (fun p => by rw [stf_v]; rfl)
      · exact FS_c (P2 (d + 8 * hg (.var v) + 13) dd) tkf_v.symm (fun p => by rw [stf_v]; rfl)
      · exact FS_c (P1 (d + 8 * hg (.var v) + 13) dd) tkf_v.symm (fun p => by rw [stf_v]; rfl)
      · exact fm_0_one (by omega) (P1 (d + 8 * hg (.var v) + 6) dd) tkf_v (fun p => by rw [stf_v]; rfl)
    · have ek : ∀ w, tkf w e = [13] := fun w => by rcases hI with rfl | rfl; exact tkf_1; exact tkf_2
      have es : ∀ w n p, stf w n p e = [(6, p, 0), (7, p, 0)] ++ (if w = 0 then [(9, (n : Int), 0)] else []) := fun w n p => by rcases hI with rfl | rfl; exact stf_1; exact stf_2
      have P1 : ∀ (d : Nat) (dd : Int), FS X (d + 6) mi_M67 dd 1 [13] (fun p => [(6, p, 0), (7, p, 0)]) := fun d dd => fm_pair_1 fm_use_name
      refine ⟨fun d dd h0 h1 => ?_, fun d dd h0 h1 => ?_, fun d dd h0 h1 => ?_, fun d dd n h0 h1 h2 => ?_⟩
      · exact FS_c (fm_part_name (d := d + 8 * hg e + 13)) (ek 3).symm (fun p => by rw [es]; rfl)
      · exact FS_c (fm_use_name (d := d + 8 * hg e + 13)) (ek 2).symm (fun p => by rw [es]; rfl)
      · exact FS_c (P1 (d + 8 * hg e + 13) dd) (ek 1).symm (fun p => by rw [es]; rfl)
      · exact fm_0_one (by omega) (P1 (d + 8 * hg e + 6) dd) (ek 0) (fun p => by rw [es]; rfl)
    · have hh : hg e = 1 + max (hg a) (hg b) := by rcases hP with rfl | rfl <;> exact hg_tn _ _ _ _
      obtain ⟨a3, a2, a1, a0⟩ := ih (hg a) (by omega) a rfl ha
      obtain ⟨b3, b2, b1, b0⟩ := ih (hg b) (by omega) b rfl hb
      obtain ⟨ka, ea⟩ := Nat.exists_eq_add_of_le (show hg a ≤ max (hg a) (hg b) by omega)
      obtain ⟨kb, eb⟩ := Nat.exists_eq_add_of_le (show hg b ≤ max (hg a) (hg b) by omega)
      generalize hM : max (hg a) (hg b) = M at *
      unfold FA
      rw [hh]
      have all0 : ∀ (d : Nat) (dd : Int) (n : Nat), 0 ≤ dd → dd + M ≤ 12 → n + (1 + M) < 290 → fm_0 X (d + 8 * M + 14) dd n e := by
        intro d dd n h0 h1 h2
        rcases hP with rfl | rfl
        · have U := fm_pair_2 (d := d + 8 * M + 14) (FS_c (a2 (d + 8 * ka + 1) dd h0 (by omega)) rfl (fun _ => rfl) |> (fun q => by rw [show d + 8 * ka + 1 + 8 * hg a + 18 = d + 8 * M + 14 + 5 by omega] at q; exact q)) (FS_c (b2 (d + 8 * kb + 1) dd h0 (by omega)) rfl (fun _ => rfl) |> (fun q => by rw [show d + 8 * kb + 1 + 8 * hg b + 18 = d + 8 * M + 14 + 5 by omega] at q; exact q))
          exact fm_0_one (by omega) U (by rw [tkf_5]; rfl) (fun p => by rw [stf_5]; rfl)
        · have A1 := a1 (d + 8 * ka + 1) dd h0 (by omega)
          rw [show d + 8 * ka + 1 + 8 * hg a + 19 = d + 8 * M + 14 + 6 by omega] at A1
          have B0 := b0 (d + 8 * kb + 8) dd (n + 1) h0 (by omega) (by omega)
          rw [show d + 8 * kb + 8 + 8 * hg b + 6 = d + 8 * M + 14 by omega] at B0
          obtain ⟨ts, ts', l, l', e1, e2, g1, g2, g3⟩ := B0
          refine ⟨tkf 1 a, 17 :: tkf 0 b, fun p => stf 1 0 p a, fun p => stf 0 (n + 1) (p + 1) b, by rw [tkf_6]; rfl, fun p => by rw [stf_6]; rfl, A1, ?_, Or.inr ⟨_, rfl⟩⟩
          refine FLP_c (fl_cons (n := (n : Int)) (by omega) (by omega) g1 (by rw [show (n : Int) + 1 = ((n + 1 : Nat) : Int) by omega]; exact g2) g3) (by rw [e1]) (fun p => ?_)
          rw [e2, Int.add_assoc]
      have P0 : ∀ w (p : Int), (w = 2 ∨ w = 3 ∨ (w = 1 ∧ e = tn 6 a b tr_0)) → tkf w e = 40 :: (tkf 0 e ++ [41]) ∧ stf w 0 p e = stf 0 0 (p + 1) e := by
        intro w p hw
        rcases hP with rfl | rfl
        · have h1 : 1 < w := by
            rcases hw with rfl | rfl | ⟨-, q⟩
            · omega
            · omega
            · exact absurd (tn_inj q).1 (by decide)
          rw [tkf_5, if_pos h1, tkf_5, if_neg (by omega), stf_5, if_pos h1, stf_5, if_neg (by omega)]
          exact ⟨rfl, rfl⟩
        · have h1 : 0 < w := by omega
          rw [tkf_6, if_pos h1, tkf_6, if_neg (by omega), stf_6, if_pos h1, stf_6, if_neg (by omega)]
          exact ⟨rfl, rfl⟩
      have P3 : ∀ (d : Nat) (dd : Int), 0 ≤ dd → dd + (1 + M) ≤ 12 → FS X (d + 8 * M + 22) mi_M73 dd 3 (tkf 3 e) (fun p => stf 3 0 p e) := fun d dd h0 h1 => FS_c (fm_0_par (d := d + 8 * M + 10) ⟨h0, by omega⟩ (all0 d (dd + 1) 0 (by omega) (by omega) (by omega))) (P0 3 0 (by omega)).1.symm (fun p => (P0 3 p (by omega)).2.symm)
      have P2 : ∀ (d : Nat) (dd : Int), 0 ≤ dd → dd + (1 + M) ≤ 12 → FS X (d + 8 * M + 23) mi_M68 dd 2 (tkf 2 e) (fun p => stf 2 0 p e) := fun d dd h0 h1 => FS_c (fm_0_use (d := d + 8 * M + 10) ⟨h0, by omega⟩ (all0 d (dd + 1) 0 (by omega) (by omega) (by omega))) (P0 2 0 (by omega)).1.symm (fun p => (P0 2 p (by omega)).2.symm)
      refine ⟨fun d dd h0 h1 => ?_, fun d dd h0 h1 => ?_, fun d dd h0 h1 => ?_, fun d dd n h0 h1 h2 => ?_⟩
      · have := P3 (d + 3) dd h0 (by omega)
        rw [show d + 3 + 8 * M + 22 = d + 8 * (1 + M) + 17 by omega] at this
        exact this
      · have := P2 (d + 3) dd h0 (by omega)
        rw [show d + 3 + 8 * M + 23 = d + 8 * (1 + M) + 18 by omega] at this
        exact this
      · by_cases hq : e = tn 6 a b tr_0
        · have := fm_pair_1 (d := d + 8 * M + 21) (FS_c (fm_0_use (d := d + 8 * M + 13) ⟨h0, by omega⟩ (all0 (d + 3) (dd + 1) 0 (by omega) (by omega) (by omega) |> (fun q => by rw [show d + 3 + 8 * M + 14 = d + 8 * M + 13 + 4 by omega] at q; exact q))) (P0 1 0 (Or.inr (Or.inr ⟨rfl, hq⟩))).1.symm (fun p => (P0 1 p (Or.inr (Or.inr ⟨rfl, hq⟩))).2.symm))
          rw [show d + 8 * M + 21 + 6 = d + 8 * (1 + M) + 19 by omega] at this
          exact this
        · obtain rfl := hP.resolve_right hq
          have A2 := a2 (d + 8 * ka + 8) dd h0 (by omega)
          rw [show d + 8 * ka + 8 + 8 * hg a + 18 = d + 8 * M + 21 + 5 by omega] at A2
          have B2 := b2 (d + 8 * kb + 8) dd h0 (by omega)
          rw [show d + 8 * kb + 8 + 8 * hg b + 18 = d + 8 * M + 21 + 5 by omega] at B2
          have := fm_pair_2 A2 B2
          rw [show d + 8 * M + 21 + 6 = d + 8 * (1 + M) + 19 by omega] at this
          exact FS_c this (by rw [tkf_5, if_neg (by omega)]) (fun p => by rw [stf_5, if_neg (by omega), if_neg (by omega), List.append_nil])
      · have := all0 d dd n h0 (by omega) (by omega)
        rw [show d + 8 * M + 14 = d + 8 * (1 + M) + 6 by omega] at this
        exact this
    · have hh : hg (tn 9 a tr_0 tr_0) = 1 + max (hg a) (hg tr_0) := hg_tn _ _ _ _
      have h0' : hg tr_0 = 0 := rfl
      have hh : hg (tn 9 a tr_0 tr_0) = 1 + hg a := by rw [hh, h0']; omega
      obtain ⟨a3, a2, a1, a0⟩ := ih (hg a) (by omega) a rfl ha
      obtain ⟨k1, r1, ek, hk⟩ := tkf_3 ha
      unfold FA
      rw [hh]
      have U : ∀ (d : Nat) (dd : Int), 0 ≤ dd → dd + (1 + hg a) ≤ 12 → FS X (d + 8 * hg a + 18) mi_M68 dd 2 (13 :: tkf 3 a) (fun p => (6, p, 0) :: (stf 3 0 (p + 1) a ++ [(7, p, 1)])) := fun d dd h0 h1 => by
        have A3 := a3 d dd h0 (by omega)
        rw [ek] at A3 ⊢
        exact fm_use_list (d := d + 8 * hg a + 13) hk A3
      have all0 : ∀ (d : Nat) (dd : Int) (n : Nat), 0 ≤ dd → dd + (1 + hg a) ≤ 12 → n < 290 → fm_0 X (d + 8 * hg a + 13) dd n (tn 9 a tr_0 tr_0) := fun d dd n h0 h1 h2 => fm_0_one h2 (fm_pair_1 (d := d + 8 * hg a + 13) (U d dd h0 h1)) (by rw [tkf_9]; rfl) (fun p => by rw [stf_9]; rfl)
      refine ⟨fun d dd h0 h1 => ?_, fun d dd h0 h1 => ?_, fun d dd h0 h1 => ?_, fun d dd n h0 h1 h2 => ?_⟩
      · have Uu : FS X (d + 8 * hg a + 17 + 5) mi_M68 (dd + 1) 2 (13 :: tkf 3 a) (fun p => (6, p, 0) :: (stf 3 0 (p + 1) a ++ [(7, p, 1)])) := by
          have A3 := a3 (d + 4) (dd + 1) (by omega) (by omega)
          rw [show d + 4 + 8 * hg a + 17 = d + 8 * hg a + 17 + 4 by omega] at A3
          rw [ek] at A3 ⊢
          exact fm_use_list hk A3
        have G : fm_0 X (d + 8 * hg a + 13 + 4) (dd + 1) 0 (tn 9 a tr_0 tr_0) := fm_0_one (by omega) (fm_pair_1 Uu) (by rw [tkf_9]; rfl) (fun p => by rw [stf_9]; rfl)
        have := fm_0_par (d := d + 8 * hg a + 13) ⟨h0, by omega⟩ G
        rw [show d + 8 * hg a + 13 + 12 = d + 8 * (1 + hg a) + 17 by omega] at this
        exact FS_c this (by rw [tkf_9, if_neg (by omega), tkf_9, if_pos rfl]) (fun p => by rw [stf_9, if_neg (by omega), stf_9, if_pos rfl]; rfl)
      · have := U (d + 8) dd h0 (by omega)
        rw [show d + 8 + 8 * hg a + 18 = d + 8 * (1 + hg a) + 18 by omega] at this
        exact FS_c this (by rw [tkf_9]; rfl) (fun p => by rw [stf_9, if_neg (by omega), if_neg (by omega), List.append_nil])
      · have := fm_pair_1 (d := d + 8 * hg a + 13 + 8) (by have := U (d + 8) dd h0 (by omega); rw [show d + 8 + 8 * hg a + 18 = d + 8 * hg a + 13 + 8 + 5 by omega] at this; exact this)
        rw [show d + 8 * hg a + 13 + 8 + 6 = d + 8 * (1 + hg a) + 19 by omega] at this
        exact FS_c this (by rw [tkf_9]; rfl) (fun p => by rw [stf_9, if_neg (by omega), if_neg (by omega), List.append_nil])
      · have := all0 (d + 1) dd n h0 (by omega) (by omega)
        rw [show d + 1 + 8 * hg a + 13 = d + 8 * (1 + hg a) + 6 by omega] at this
        exact this
