/-! ===== the text of a type, as codes and as bytes ===== -/
def tyc (w bl : Nat) : tr → List (Nat × Nat)
  | .var v => [(bl, 24 + v)]
  | .add (.num t) (.add a (.add b _)) =>
    if t = 5 then (if 1 < w then (bl, 16) :: (tyc 2 0 a ++ (1, 22) :: (tyc 2 1 b ++ [(0, 17)])) else tyc 2 bl a ++ (1, 22) :: tyc 2 1 b)
    else if t = 6 then (if 0 < w then (bl, 16) :: (tyc 1 0 a ++ (1, 23) :: (tyc 0 1 b ++ [(0, 17)])) else tyc 1 bl a ++ (1, 23) :: tyc 0 1 b)
    else if t = 9 then (if w = 3 then (bl, 16) :: (0, 15) :: (tyc 3 1 a ++ [(0, 17)]) else (bl, 15) :: tyc 3 1 a)
    else if t = 1 then [(bl, 13)] else [(bl, 14)]
  | _ => []
/-- its bytes, each mark by its letter -/
def prt : tr → List Int
  | .var v => [39, 97 + (v : Int)]
  | .add (.num t) (.add a (.add b _)) =>
    if t = 5 then wrp (brk 2 a) (prt a) ++ ([32, 42, 32] ++ wrp (brk 2 b) (prt b))
    else if t = 6 then wrp (brk 1 a) (prt a) ++ ([32, 45, 62, 32] ++ wrp (brk 0 b) (prt b))
    else if t = 9 then [108, 105, 115, 116] ++ ([32] ++ wrp (brk 3 a) (prt a))
    else if t = 1 then [105, 110, 116] else [98, 111, 111, 108]
  | _ => []
section TC
variable {a b : tr} {w bl v : Nat}
theorem tyc_v : tyc w bl (.var v) = [(bl, 24 + v)] := rfl
theorem tyc_1 : tyc w bl (tn 1 tr_0 tr_0 tr_0) = [(bl, 13)] := rfl
theorem tyc_2 : tyc w bl (tn 2 tr_0 tr_0 tr_0) = [(bl, 14)] := rfl
theorem tyc_5 : tyc w bl (tn 5 a b tr_0) = if 1 < w then (bl, 16) :: (tyc 2 0 a ++ (1, 22) :: (tyc 2 1 b ++ [(0, 17)])) else tyc 2 bl a ++ (1, 22) :: tyc 2 1 b := rfl
theorem tyc_6 : tyc w bl (tn 6 a b tr_0) = if 0 < w then (bl, 16) :: (tyc 1 0 a ++ (1, 23) :: (tyc 0 1 b ++ [(0, 17)])) else tyc 1 bl a ++ (1, 23) :: tyc 0 1 b := rfl
theorem tyc_9 : tyc w bl (tn 9 a tr_0 tr_0) = if w = 3 then (bl, 16) :: (0, 15) :: (tyc 3 1 a ++ [(0, 17)]) else (bl, 15) :: tyc 3 1 a := rfl
theorem prt_5 : prt (tn 5 a b tr_0) = wrp (brk 2 a) (prt a) ++ ([32, 42, 32] ++ wrp (brk 2 b) (prt b)) := rfl
theorem prt_6 : prt (tn 6 a b tr_0) = wrp (brk 1 a) (prt a) ++ ([32, 45, 62, 32] ++ wrp (brk 0 b) (prt b)) := rfl
theorem prt_9 : prt (tn 9 a tr_0 tr_0) = [108, 105, 115, 116] ++ ([32] ++ wrp (brk 3 a) (prt a)) := rfl
theorem brk_v : brk w (.var v) = false := rfl
theorem brk_1 : brk w (tn 1 tr_0 tr_0 tr_0) = false := rfl
theorem brk_2 : brk w (tn 2 tr_0 tr_0 tr_0) = false := rfl
theorem brk_5 : brk w (tn 5 a b tr_0) = decide (1 < w) := by
  rw [brk_tn]
  simp
theorem brk_6 : brk w (tn 6 a b tr_0) = decide (0 < w) := by
  rw [brk_tn]
  simp
theorem brk_9 : brk w (tn 9 a tr_0 tr_0) = (w == 3) := by
  rw [brk_tn]
  simp
end TC
theorem ltk_tok {v : Nat} (h : v < 6) : tokY (24 + v) = ltk (v : Int) := by
  obtain rfl | rfl | rfl | rfl | rfl | rfl : v = 0 ∨ v = 1 ∨ v = 2 ∨ v = 3 ∨ v = 4 ∨ v = 5 := by omega
  all_goals rfl
theorem tokB_v {v : Nat} (h : v < 6) : tokB (24 + v) = [39, 97 + (v : Int)] := by
  obtain rfl | rfl | rfl | rfl | rfl | rfl : v = 0 ∨ v = 1 ∨ v = 2 ∨ v = 3 ∨ v = 4 ∨ v = 5 := by omega
  all_goals rfl
theorem tokK_v {v : Nat} (h : v < 6) : tokK (24 + v) = 15 := by
  obtain rfl | rfl | rfl | rfl | rfl | rfl : v = 0 ∨ v = 1 ∨ v = 2 ∨ v = 3 ∨ v = 4 ∨ v = 5 := by omega
  all_goals rfl
/-- what the codes of a type are -/
def TYC (e : tr) : Prop := ∀ w bl : Nat, (tyc w bl e).map (fun q => tokK q.2) = tkf w e ∧ flc (tyc w bl e) = List.replicate bl 32 ++ wrp (brk w e) (prt e) ∧ okc (tyc w bl e) ∧ ∃ c r, tyc w bl e = (bl, c) :: r
theorem TYC_okh {e : tr} (h : TYC e) (w : Nat) : okh (tyc w 1 e) := by
  obtain ⟨-, -, -, c, r, q⟩ := h w 1
  intro y s hy
  rw [q] at hy
  obtain ⟨rfl, -⟩ := List.cons.inj hy
  exact Or.inl Nat.one_pos
theorem okh_c {x : Nat × Nat} {r : List (Nat × Nat)} (h : 0 < x.1 ∨ 16 ≤ x.2) : okh (x :: r) := fun y s e => by
  obtain ⟨rfl, -⟩ := List.cons.inj e
  exact h
theorem okh_a {a b : List (Nat × Nat)} (h : okh a) (hb : okh b) : okh (a ++ b) := by
  cases a with
  | nil => exact hb
  | cons x r => exact okh_c (h x r rfl)
theorem flc_c (bl c : Nat) (r : List (Nat × Nat)) : flc ((bl, c) :: r) = List.replicate bl 32 ++ (tokB c ++ flc r) := rfl
theorem okc_s {bl c : Nat} {r : List (Nat × Nat)} (h : 16 ≤ c) (h' : c < 30) (g : okc r) : okc ((bl, c) :: r) := okc_sym h h' g
theorem okc_k {bl c : Nat} {r : List (Nat × Nat)} (h : c < 30) (g : okc r) (hd : okh r) : okc ((bl, c) :: r) := okc_cons h g hd
theorem TYC_all : ∀ (m : Nat) (e : tr), hg e = m → wt e → (∀ v, vin v e → v < 6) → TYC e := by
  intro m
  induction m using Nat.strongRecOn with
  | ind m ih =>
  intro e hm h h6 w bl
  rcases wt_c h with ⟨v, rfl⟩ | (rfl | rfl) | ⟨a, b, wa, wb, rfl | rfl⟩ | ⟨a, wa, rfl⟩
  · have hv : v < 6 := h6 v rfl
    refine ⟨?_, ?_, Nat.add_lt_add_left hv 24, _, _, rfl⟩
    · rw [tyc_v, tkf_v]
      show [tokK (24 + v)] = _
      rw [tokK_v hv]
    · rw [tyc_v, flc_c, tokB_v hv, brk_v]
      rfl
  · exact ⟨rfl, by rw [tyc_1, flc_c, brk_1]; rfl, by show 13 < 30; omega, _, _, rfl⟩
  · exact ⟨rfl, by rw [tyc_2, flc_c, brk_2]; rfl, by show 14 < 30; omega, _, _, rfl⟩
  · rw [hg_tn] at hm
    have A := ih _ (by omega) a rfl wa (fun v q => h6 v (vin_tn.2 (Or.inl q)))
    have B := ih _ (by omega) b rfl wb (fun v q => h6 v (vin_tn.2 (Or.inr (Or.inl q))))
    obtain ⟨b1, b2, b3, -⟩ := B 2 1
    rw [tyc_5, tkf_5, brk_5, prt_5]
    by_cases hw : 1 < w
    · obtain ⟨a1, a2, a3, -⟩ := A 2 0
      rw [if_pos hw, if_pos hw, decide_eq_true hw]
      refine ⟨?_, ?_, okc_s (by decide) (by decide) (okc_app a3 (okc_s (by decide) (by decide) (okc_app b3 (by show 17 < 30; omega) (okh_c (Or.inr (by decide))))) (okh_c (Or.inl (by decide)))), _, _, rfl⟩
      · simp only [List.map_cons, List.map_append, a1, b1, List.map_nil]
        show 40 :: (tkf 2 a ++ 42 :: (tkf 2 b ++ [41])) = 40 :: ((tkf 2 a ++ 42 :: tkf 2 b) ++ [41])
        simp
      · rw [flc_c, flc_app, flc_c, flc_app, a2, b2]
        show List.replicate bl 32 ++ ([40] ++ (List.replicate 0 32 ++ wrp (brk 2 a) (prt a) ++ (List.replicate 1 32 ++ ([42] ++ (List.replicate 1 32 ++ wrp (brk 2 b) (prt b) ++ (List.replicate 0 32 ++ ([41] ++ []))))))) = List.replicate bl 32 ++ 40 :: ((wrp (brk 2 a) (prt a) ++ ([32, 42, 32] ++ wrp (brk 2 b) (prt b))) ++ [41])
        simp [List.replicate]
    · obtain ⟨a1, a2, a3, c, r, a4⟩ := A 2 bl
      rw [if_neg hw, if_neg hw, decide_eq_false hw]
      refine ⟨?_, ?_, okc_app a3 (okc_s (by decide) (by decide) b3) (okh_c (Or.inl (by decide))), c, _, by rw [a4]; rfl⟩
      · simp only [List.map_cons, List.map_append, a1, b1]
        rfl
      · rw [flc_app, flc_c, a2, b2]
        show List.replicate bl 32 ++ wrp (brk 2 a) (prt a) ++ (List.replicate 1 32 ++ ([42] ++ (List.replicate 1 32 ++ wrp (brk 2 b) (prt b)))) = List.replicate bl 32 ++ (wrp (brk 2 a) (prt a) ++ ([32, 42, 32] ++ wrp (brk 2 b) (prt b)))
        simp [List.replicate]
  · rw [hg_tn] at hm
    have A := ih _ (by omega) a rfl wa (fun v q => h6 v (vin_tn.2 (Or.inl q)))
    have B := ih _ (by omega) b rfl wb (fun v q => h6 v (vin_tn.2 (Or.inr (Or.inl q))))
    obtain ⟨b1, b2, b3, -⟩ := B 0 1
    rw [tyc_6, tkf_6, brk_6, prt_6]
    by_cases hw : 0 < w
    · obtain ⟨a1, a2, a3, -⟩ := A 1 0
      rw [if_pos hw, if_pos hw, decide_eq_true hw]
      refine ⟨?_, ?_, okc_s (by decide) (by decide) (okc_app a3 (okc_s (by decide) (by decide) (okc_app b3 (by show 17 < 30; omega) (okh_c (Or.inr (by decide))))) (okh_c (Or.inl (by decide)))), _, _, rfl⟩
      · simp only [List.map_cons, List.map_append, a1, b1, List.map_nil]
        show 40 :: (tkf 1 a ++ 17 :: (tkf 0 b ++ [41])) = 40 :: ((tkf 1 a ++ 17 :: tkf 0 b) ++ [41])
        simp
      · rw [flc_c, flc_app, flc_c, flc_app, a2, b2]
        show List.replicate bl 32 ++ ([40] ++ (List.replicate 0 32 ++ wrp (brk 1 a) (prt a) ++ (List.replicate 1 32 ++ ([45, 62] ++ (List.replicate 1 32 ++ wrp (brk 0 b) (prt b) ++ (List.replicate 0 32 ++ ([41] ++ []))))))) = List.replicate bl 32 ++ 40 :: ((wrp (brk 1 a) (prt a) ++ ([32, 45, 62, 32] ++ wrp (brk 0 b) (prt b))) ++ [41])
        simp [List.replicate]
    · obtain ⟨a1, a2, a3, c, r, a4⟩ := A 1 bl
      rw [if_neg hw, if_neg hw, decide_eq_false hw]
      refine ⟨?_, ?_, okc_app a3 (okc_s (by decide) (by decide) b3) (okh_c (Or.inl (by decide))), c, _, by rw [a4]; rfl⟩
      · simp only [List.map_cons, List.map_append, a1, b1]
        rfl
      · rw [flc_app, flc_c, a2, b2]
        show List.replicate bl 32 ++ wrp (brk 1 a) (prt a) ++ (List.replicate 1 32 ++ ([45, 62] ++ (List.replicate 1 32 ++ wrp (brk 0 b) (prt b)))) = List.replicate bl 32 ++ (wrp (brk 1 a) (prt a) ++ ([32, 45, 62, 32] ++ wrp (brk 0 b) (prt b)))
        simp [List.replicate]
  · rw [hg_tn] at hm
    have A := ih _ (by omega) a rfl wa (fun v q => h6 v (vin_tn.2 (Or.inl q)))
    obtain ⟨a1, a2, a3, -⟩ := A 3 1
    rw [tyc_9, tkf_9, brk_9, prt_9]
    by_cases hw : w = 3
    · subst hw
      rw [if_pos rfl, if_pos rfl]
      refine ⟨?_, ?_, okc_s (by decide) (by decide) (okc_k (by decide) (okc_app a3 (by show 17 < 30; omega) (okh_c (Or.inr (by decide)))) (okh_a (TYC_okh A 3) (okh_c (Or.inr (by decide))))), _, _, rfl⟩
      · simp only [List.map_cons, List.map_append, a1, List.map_nil]
        rfl
      · rw [flc_c, flc_c, flc_app, a2]
        show List.replicate bl 32 ++ ([40] ++ (List.replicate 0 32 ++ ([108, 105, 115, 116] ++ (List.replicate 1 32 ++ wrp (brk 3 a) (prt a) ++ (List.replicate 0 32 ++ ([41] ++ [])))))) = List.replicate bl 32 ++ 40 :: (([108, 105, 115, 116] ++ ([32] ++ wrp (brk 3 a) (prt a))) ++ [41])
        simp [List.replicate]
    · rw [if_neg hw, if_neg hw, show (w == 3) = false by simpa using hw]
      refine ⟨?_, ?_, okc_k (by decide) a3 (TYC_okh A 3), _, _, rfl⟩
      · simp only [List.map_cons, a1]
        rfl
      · rw [flc_c, a2]
        show List.replicate bl 32 ++ ([108, 105, 115, 116] ++ (List.replicate 1 32 ++ wrp (brk 3 a) (prt a))) = List.replicate bl 32 ++ ([108, 105, 115, 116] ++ ([32] ++ wrp (brk 3 a) (prt a)))
        simp [List.replicate]
/-- the keys of a row of codes -/
def KYS (E : Int → Int64) (p : Int) (l : List (Nat × Nat)) : Prop := ∀ (i : Nat) (q : Nat × Nat), l[i]? = some q → E (p + i) = tokY q.2
theorem KYS_c {E : Int → Int64} {p : Int} {x : Nat × Nat} {l : List (Nat × Nat)} (h : KYS E p (x :: l)) : E p = tokY x.2 ∧ KYS E (p + 1) l := by
  refine ⟨?_, fun i q hq => ?_⟩
  · have := h 0 x rfl
    rw [show p + ((0 : Nat) : Int) = p by omega] at this
    exact this
  · have := h (i + 1) q (by simpa using hq)
    rw [show p + ((i + 1 : Nat) : Int) = p + 1 + i by omega] at this
    exact this
theorem KYS_a {E : Int → Int64} {p : Int} {a b : List (Nat × Nat)} (h : KYS E p (a ++ b)) : KYS E p a ∧ KYS E (p + a.length) b := by
  refine ⟨fun i q hq => h i q ?_, fun i q hq => ?_⟩
  · rw [List.getElem?_append_left (List.getElem?_eq_some_iff.mp hq).1]; exact hq
  · have := h (a.length + i) q (by rw [List.getElem?_append_right (by omega), show a.length + i - a.length = i by omega]; exact hq)
    rw [show p + ((a.length + i : Nat) : Int) = p + a.length + i by omega] at this
    exact this
theorem tyc_len {e : tr} (h : TYC e) (w bl : Nat) : (tyc w bl e).length = (tkf w e).length := by
  rw [← (h w bl).1, List.length_map]
theorem kyp_all {E : Int → Int64} : ∀ (m : Nat) (e : tr), hg e = m → wt e → (∀ v, vin v e → v < 6) → ∀ (w bl : Nat) (p : Int), KYS E p (tyc w bl e) → kyp E w p e := by
  intro m
  induction m using Nat.strongRecOn with
  | ind m ih =>
  intro e hm h h6 w bl p H
  rcases wt_c h with ⟨v, rfl⟩ | (rfl | rfl) | ⟨a, b, wa, wb, rfl | rfl⟩ | ⟨a, wa, rfl⟩
  · rw [kyp_v]
    rw [tyc_v] at H
    rw [(KYS_c H).1]
    exact ltk_tok (h6 v rfl)
  · rw [kyp_1]
    rw [tyc_1] at H
    exact (KYS_c H).1
  · rw [kyp_2]
    rw [tyc_2] at H
    exact (KYS_c H).1
  · rw [hg_tn] at hm
    have ha6 : ∀ v, vin v a → v < 6 := fun v q => h6 v (vin_tn.2 (Or.inl q))
    have hb6 : ∀ v, vin v b → v < 6 := fun v q => h6 v (vin_tn.2 (Or.inr (Or.inl q)))
    have A := ih _ (by omega) a rfl wa ha6
    have B := ih _ (by omega) b rfl wb hb6
    have la := tyc_len (TYC_all _ a rfl wa ha6)
    rw [kyp_5]
    rw [tyc_5] at H
    split
    · rename_i hw
      rw [if_pos hw] at H
      obtain ⟨h1, h2⟩ := KYS_a (KYS_c H).2
      rw [la] at h2
      exact ⟨A _ _ _ h1, B _ _ _ (KYS_a (KYS_c h2).2).1⟩
    · rename_i hw
      rw [if_neg hw] at H
      obtain ⟨h1, h2⟩ := KYS_a H
      rw [la] at h2
      exact ⟨A _ _ _ h1, B _ _ _ (KYS_c h2).2⟩
  · rw [hg_tn] at hm
    have ha6 : ∀ v, vin v a → v < 6 := fun v q => h6 v (vin_tn.2 (Or.inl q))
    have hb6 : ∀ v, vin v b → v < 6 := fun v q => h6 v (vin_tn.2 (Or.inr (Or.inl q)))
    have A := ih _ (by omega) a rfl wa ha6
    have B := ih _ (by omega) b rfl wb hb6
    have la := tyc_len (TYC_all _ a rfl wa ha6)
    rw [kyp_6]
    rw [tyc_6] at H
    split
    · rename_i hw
      rw [if_pos hw] at H
      obtain ⟨h1, h2⟩ := KYS_a (KYS_c H).2
      rw [la] at h2
      exact ⟨A _ _ _ h1, B _ _ _ (KYS_a (KYS_c h2).2).1⟩
    · rename_i hw
      rw [if_neg hw] at H
      obtain ⟨h1, h2⟩ := KYS_a H
      rw [la] at h2
      exact ⟨A _ _ _ h1, B _ _ _ (KYS_c h2).2⟩
  · rw [hg_tn] at hm
    have ha6 : ∀ v, vin v a → v < 6 := fun v q => h6 v (vin_tn.2 (Or.inl q))
    have A := ih _ (by omega) a rfl wa ha6
    rw [kyp_9]
    rw [tyc_9] at H
    split
    · rename_i hw
      rw [if_pos hw] at H
      obtain ⟨h1, h2⟩ := KYS_c (KYS_c H).2
      exact ⟨h1, A _ _ _ (KYS_a h2).1⟩
    · rename_i hw
      rw [if_neg hw] at H
      obtain ⟨h1, h2⟩ := KYS_c H
      exact ⟨h1, A _ _ _ h2⟩
