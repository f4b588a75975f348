/-! ===== the definitions of the law: their tokens, their steps ===== -/
def dfT (e : tr) : List Int := 1 :: 13 :: 58 :: (tkf 0 e ++ 61 :: ([13] ++ [59]))
def dfS (e : tr) (p s : Int) : List (Int × Int × Int) := (10, p, 0) :: (stf 0 0 (p + 3) e ++ (11, p + 3, 0) :: (21, p + ((tkf 0 e).length + 4), 0) :: (12, s + ((stf 0 0 (p + 3) e).length + 2), p) :: [])
def deT : List Int := [1, 13, 61, 40, 13, 44, 13, 41, 59]
def deS (p s : Int) : List (Int × Int × Int) := [(10, p, 0), (21, p + 4, 0), (21, p + 6, 0), (24, s + 1, s + 2), (12, s + 3, p)]
def diT : List Int := [1, 13, 61, 4, 13, 17, 13, 59]
def diS (p s : Int) : List (Int × Int × Int) := [(10, p, 0), (15, p + 4, 0), (21, p + 6, 0), (30, s + 2, 1), (12, s + 3, p)]
def duT : List Int := [1, 13, 61, 2, 13, 61, 13, 3, 40, 13, 44, 13, 41, 59]
def duS (p s : Int) : List (Int × Int × Int) := [(10, p, 0), (21, p + 6, 0), (16, s + 1, p + 4), (21, p + 9, 0), (21, p + 11, 0), (24, s + 3, s + 4), (31, s + 5, 0), (12, s + 6, p)]
theorem dfT_len (e : tr) : ((dfT e).length : Int) = (tkf 0 e).length + 6 := by
  simp [dfT]
  omega
theorem dfS_len (e : tr) (p s : Int) : ((dfS e p s).length : Int) = (stf 0 0 (p + 3) e).length + 4 := by
  simp [dfS]
  omega
theorem DS_c {X : mi_X} {d : Nat} {M : mi_M} {ts ts' : List Int} {l l' : Int → Int → List (Int × Int × Int)} (h : DS X d M ts l) (e : ts = ts') (e' : ∀ p s, l p s = l' p s) : DS X d M ts' l' := by
  subst e
  obtain rfl : l = l' := funext fun p => funext fun s => e' p s
  exact h
section DS
variable {X : mi_X} {d : Nat}
theorem ds_df {e : tr} (hw : wt e) (hh : hg e ≤ 6) : DS X (d + 70) mi_M70 (dfT e) (dfS e) := by
  have h := fm_0_form (dd := 0) ⟨by omega, by omega⟩ ((FA_all X (hg e) e rfl hw).2.2.2 (d + (55 - 8 * hg e)) 0 0 (by omega) (by omega) (by omega))
  rw [show d + (55 - 8 * hg e) + 8 * hg e + 6 + 7 = d + 64 + 4 by omega] at h
  refine DS_c (it_def (d := d + 64) (dn_form (d := d + 64) h (pr26_name (d := d + 58) ⟨by omega, by omega⟩))) rfl fun p s => ?_
  unfold dfS
  have e1 : p + (3 + ((tkf 0 e).length + 1 : Int)) = p + ((tkf 0 e).length + 4) := by omega
  have e2 : s + (1 + ((stf 0 0 (p + 3) e).length : Int) + 1) = s + ((stf 0 0 (p + 3) e).length + 2) := by omega
  simp only [e1, e2, List.cons_append, List.nil_append]
theorem ds_de : DS X (d + 70) mi_M70 deT deS := by
  have hx : ES26 X (d + 51 + 10) mi_M65 (0 + 1) [13] (fun p s => [(21, p, 0)]) (fun p s => s) := pr26_name (d := d + 51) ⟨by omega, by omega⟩
  refine DS_c (it_def (d := d + 64) (dn_plain (d := d + 64) (pr26_exprP (d := d + 58) ⟨by omega, by omega⟩ (pr26_relation (d := d + 58) (pr26_sum (d := d + 58) (pr26_product (d := d + 58) (pr26_call (d := d + 58) (pr26_atom_par (d := d + 56) (pr26_bracket (d := d + 56) hx hx))))))))) rfl fun p s => ?_
  simp [deS, Int.add_assoc]
theorem ds_di : DS X (d + 70) mi_M70 diT diS := by
  refine DS_c (it_def (d := d + 64) (dn_plain (d := d + 64) (pr26_exprF (d := d + 58) ⟨by omega, by omega⟩ (pr26_fun (d := d + 61) (pr26_name (d := d + 56) ⟨by omega, by omega⟩))))) rfl fun p s => ?_
  simp [diS, Int.add_assoc]
theorem ds_du : DS X (d + 70) mi_M70 duT duS := by
  have hx : ES26 X (d + 49 + 10) mi_M65 (0 + 1 + 1) [13] (fun p s => [(21, p, 0)]) (fun p s => s) := pr26_name (d := d + 49) ⟨by omega, by omega⟩
  refine DS_c (it_def (d := d + 64) (dn_plain (d := d + 64) (pr26_exprL (d := d + 58) ⟨by omega, by omega⟩ (pr26_let (d := d + 61) (pr26_name (d := d + 56) ⟨by omega, by omega⟩) (pr26_exprP (d := d + 56) ⟨by omega, by omega⟩ (pr26_relation (d := d + 56) (pr26_sum (d := d + 56) (pr26_product (d := d + 56) (pr26_call (d := d + 56) (pr26_atom_par (d := d + 54) (pr26_bracket (d := d + 54) hx hx))))))))))) rfl fun p s => ?_
  simp [duS, Int.add_assoc]
end DS
/-- how many tokens, how many steps -/
theorem tkf_len {e : tr} : ∀ (m : Nat), hg e = m → wt e → ∀ w, ((tkf w e).length : Int) ≤ 3 * pz e := by
  intro m
  induction m using Nat.strongRecOn generalizing e with
  | ind m ih =>
  intro hm h w
  rcases wt_c h with ⟨v, rfl⟩ | (rfl | rfl) | ⟨a, b, wa, wb, rfl | rfl⟩ | ⟨a, wa, rfl⟩
  · rw [tkf_v]; show (1 : Int) ≤ 3 * 1; omega
  · rw [tkf_1]; show (1 : Int) ≤ 3 * (1 + 0); omega
  · rw [tkf_2]; show (1 : Int) ≤ 3 * (1 + 0); omega
  · rw [hg_tn] at hm
    have ha := ih _ (by omega) rfl wa 2
    have hb := ih _ (by omega) rfl wb 2
    rw [tkf_5, pz_tn5]
    split <;> simp <;> omega
  · rw [hg_tn] at hm
    have ha := ih _ (by omega) rfl wa 1
    have hb := ih _ (by omega) rfl wb 0
    rw [tkf_6, pz_tn6]
    split <;> simp <;> omega
  · rw [hg_tn] at hm
    have ha := ih _ (by omega) rfl wa 3
    rw [tkf_9, pz_tn (by decide)]
    have : pz tr_0 = 0 := rfl
    split <;> simp <;> omega
theorem stf_len {e : tr} : ∀ (m : Nat), hg e = m → wt e → ∀ w n p, ((stf w n p e).length : Int) ≤ 3 * pz e := by
  intro m
  induction m using Nat.strongRecOn generalizing e with
  | ind m ih =>
  intro hm h w n p
  have i1 : (if w = 0 then [((9 : Int), (n : Int), (0 : Int))] else []).length ≤ 1 := by split <;> simp
  rcases wt_c h with ⟨v, rfl⟩ | (rfl | rfl) | ⟨a, b, wa, wb, rfl | rfl⟩ | ⟨a, wa, rfl⟩
  · rw [stf_v, List.length_cons]; show _ ≤ 3 * (1 : Int); omega
  · rw [stf_1, List.length_append]; show _ ≤ 3 * ((1 : Int) + 0); simp only [List.length_cons, List.length_nil]; omega
  · rw [stf_2, List.length_append]; show _ ≤ 3 * ((1 : Int) + 0); simp only [List.length_cons, List.length_nil]; omega
  · rw [hg_tn] at hm
    rw [stf_5, pz_tn5]
    split
    · have ha := ih _ (by omega) rfl wa 2 0 (p + 1)
      have hb := ih _ (by omega) rfl wb 2 0 (p + 1 + (tkf 2 a).length + 1)
      simp only [List.length_append, List.length_cons, List.length_nil]
      omega
    · have ha := ih _ (by omega) rfl wa 2 0 p
      have hb := ih _ (by omega) rfl wb 2 0 (p + (tkf 2 a).length + 1)
      simp only [List.length_append, List.length_cons, List.length_nil]
      omega
  · rw [hg_tn] at hm
    rw [stf_6, pz_tn6]
    split
    · have ha := ih _ (by omega) rfl wa 1 0 (p + 1)
      have hb := ih _ (by omega) rfl wb 0 1 (p + 1 + (tkf 1 a).length + 1)
      simp only [List.length_append]
      omega
    · have ha := ih _ (by omega) rfl wa 1 0 p
      have hb := ih _ (by omega) rfl wb 0 (n + 1) (p + (tkf 1 a).length + 1)
      simp only [List.length_append]
      omega
  · rw [hg_tn] at hm
    have : pz tr_0 = 0 := rfl
    rw [stf_9, pz_tn (by decide)]
    split
    · have ha := ih _ (by omega) rfl wa 3 0 (p + 1 + 1)
      simp only [List.length_append, List.length_cons, List.length_nil]
      omega
    · have ha := ih _ (by omega) rfl wa 3 0 (p + 1)
      simp only [List.length_append, List.length_cons, List.length_nil]
      omega
