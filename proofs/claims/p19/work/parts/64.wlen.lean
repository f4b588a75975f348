/-! ===== the length of a type's text (printed by wip/gen/p_wlen.py) ===== -/
def bki (w : Nat) (e : tr) : Int := if brk w e = true then 1 else 0
theorem bki_01 (w : Nat) (e : tr) : 0 ≤ bki w e ∧ bki w e ≤ 1 := by unfold bki; split <;> omega
def wl : tr → Int
  | .var _ => 2
  | .add (.num t) (.add a (.add b _)) => if t = 5 then 3 + (wl a + 2 * bki 2 a) + (wl b + 2 * bki 2 b) else if t = 6 then 4 + (wl a + 2 * bki 1 a) + (wl b + 2 * bki 0 b) else if t = 9 then 5 + (wl a + 2 * bki 3 a) else if t = 1 then 3 else 4
  | _ => 0
theorem wl_tn {t : Int} {a b c : tr} : wl (tn t a b c) = if t.toNat = 5 then 3 + (wl a + 2 * bki 2 a) + (wl b + 2 * bki 2 b) else if t.toNat = 6 then 4 + (wl a + 2 * bki 1 a) + (wl b + 2 * bki 0 b) else if t.toNat = 9 then 5 + (wl a + 2 * bki 3 a) else if t.toNat = 1 then 3 else 4 := by unfold tn; rw [wl]
theorem wl_0 : ∀ e : tr, 0 ≤ wl e
  | .var v => by rw [wl]; omega
  | .add (.num t) (.add a (.add b c)) => by
    have ha := wl_0 a
    have hb := wl_0 b
    have b1 := bki_01 2 a
    have b2 := bki_01 2 b
    have b3 := bki_01 1 a
    have b4 := bki_01 0 b
    have b5 := bki_01 3 a
    rw [wl]
    split
    · omega
    · split
      · omega
      · split
        · omega
        · split <;> omega
  | .num _ => by simp [wl]
  | .mul _ _ => by simp [wl]
  | .add (.var _) _ => by simp [wl]
  | .add (.add _ _) _ => by simp [wl]
  | .add (.mul _ _) _ => by simp [wl]
  | .add (.num _) (.num _) => by simp [wl]
  | .add (.num _) (.var _) => by simp [wl]
  | .add (.num _) (.mul _ _) => by simp [wl]
  | .add (.num _) (.add _ (.num _)) => by simp [wl]
  | .add (.num _) (.add _ (.var _)) => by simp [wl]
  | .add (.num _) (.add _ (.mul _ _)) => by simp [wl]
/-- as the note keeps it -/
def wln (e : tr) : Int := min (wl e) 1000000
theorem wln_0 (e : tr) : 0 ≤ wln e := by
  have := wl_0 e
  unfold wln
  omega
theorem ty_T_14 {σ0 σ : mi_Sg} {Sx : Int → Prop} {T : Int → tr} (F : sg_Af [13, 14, 15, 16] [(9, 10), (9, 11)] σ0 σ) (H : ty_T σ0 Sx T) : ty_T σ Sx T := by
  have a10 := sg_Af_Ak F (k := 10) (by decide)
  have a11 := sg_Af_Ak F (k := 11) (by decide)
  have a12 := sg_Af_Ak F (k := 12) (by decide)
  have f8 := F.2.2 9 8 (by decide)
  unfold ty_T ty_K' ty_k at H ⊢
  rw [a10, a11, a12, f8]
  exact H

theorem wr_blanks0 {X : mi_X} {σ : mi_Sg} {d : Nat} {nd : Int} (n0 : 0 < nd) (n1 : nd < mi_sF σ 9 8) (nr : mi_sA σ 12 nd = nd) (h0 : 0 ≤ mi_sA σ 10 nd) (h : mi_sA σ 10 nd < 7) : ty_Ci X (d + 2) mi_M150 [(0, .ref 52), (1, .int (Int32.ofInt nd))] σ (fun x σ' => x = 0 ∧ σ' = σ) := by
  intro h S
  have fr := mi_Fm_rf h
  refine mi_wp_p (pc' := 1) (st' := [.ref 52]) rfl rfl rfl ?_
  refine ty_s_gr S rfl rfl rfl (List.mem_of_getElem? (i := 64) rfl) ?_
  refine mi_wp_p (pc' := 5) (st' := [.int (Int32.ofInt nd), .ref 9]) rfl rfl rfl ?_
  refine ty_s_ci rfl rfl rfl rfl rfl rfl (mi_cal_v2 (np := 1) (args := [.ref 9, .int (Int32.ofInt nd)]) (rest := []) rfl rfl rfl rfl rfl (Nat.le_of_ble_eq_true rfl) rfl rfl (Nat.le_of_ble_eq_true rfl) (ty_rcS S (List.mem_of_getElem? (i := 5) rfl))) (Nat.le_of_ble_eq_true rfl) S (ty_tagOf (by omega) n1) ?_
  intro x hh σu S f P
  obtain ⟨g1, g2⟩ := P
  rw [g2] at S
  rw [g1, nr]
  clear g1 g2
  replace fr := mi_Fm_tr fr f
  refine mi_s_k (pc' := 10) (e := 7) rfl rfl rfl (by decide +kernel) ?_
  refine mi_s_if2 (t := 15) rfl rfl rfl (by unfold mi_R; omega) (by unfold mi_R; omega) (fun hc_ => absurd (show 7 ≤ (mi_sA σ 10 nd) from hc_) (by omega)) (fun _ => ?_)
  refine mi_wp_p (pc' := 14) (st' := [.int (Int32.ofInt 0)]) rfl rfl rfl ?_
  exact ty_s_ret S fr rfl rfl rfl (mi_ret_i rfl) ⟨_, rfl, ⟨rfl, rfl⟩⟩
theorem wr_blanks9 {X : mi_X} {σ : mi_Sg} {d : Nat} {nd : Int} (n0 : 0 < nd) (n1 : nd < mi_sF σ 9 8) (nr : mi_sA σ 12 nd = nd) (h9 : mi_sA σ 10 nd = 9) (hk : ∀ w, 0 ≤ w → w < 3 → 0 ≤ ty_k σ nd w ∧ ty_k σ nd w < mi_sF σ 9 8) (k0 : 0 < ty_K' σ nd 0) (k0b : ty_K' σ nd 0 < 1000) (k1 : ty_K' σ nd 1 = 0) (k2 : ty_K' σ nd 2 = 0) : ty_Ci X (d + 2) mi_M150 [(0, .ref 52), (1, .int (Int32.ofInt nd))] σ (fun x σ' => x = 1 ∧ σ' = σ) := by
  intro h S
  have fr := mi_Fm_rf h
  refine mi_wp_p (pc' := 1) (st' := [.ref 52]) rfl rfl rfl ?_
  refine ty_s_gr S rfl rfl rfl (List.mem_of_getElem? (i := 64) rfl) ?_
  refine mi_wp_p (pc' := 5) (st' := [.int (Int32.ofInt nd), .ref 9]) rfl rfl rfl ?_
  refine ty_s_ci rfl rfl rfl rfl rfl rfl (mi_cal_v2 (np := 1) (args := [.ref 9, .int (Int32.ofInt nd)]) (rest := []) rfl rfl rfl rfl rfl (Nat.le_of_ble_eq_true rfl) rfl rfl (Nat.le_of_ble_eq_true rfl) (ty_rcS S (List.mem_of_getElem? (i := 5) rfl))) (Nat.le_of_ble_eq_true rfl) S (ty_tagOf (by omega) n1) ?_
  intro x hh σu S f P
  obtain ⟨g1, g2⟩ := P
  rw [g2] at S
  rw [g1, nr, h9]
  clear g1 g2
  replace fr := mi_Fm_tr fr f
  refine mi_s_k (pc' := 10) (e := 7) rfl rfl rfl (by decide +kernel) ?_
  refine mi_s_if2 (t := 15) rfl rfl rfl (by unfold mi_R; omega) (by unfold mi_R; omega) (fun _ => ?_) (fun hc_ => absurd (show 7 ≤ (9 : Int) by omega) hc_)
  refine mi_wp_p (pc' := 16) (st' := [.int (Int32.ofInt 0)]) rfl rfl rfl ?_
  refine mi_wp_p (pc' := 17) (l' := [(2, .int (Int32.ofInt 0)), (0, .ref 52), (1, .int (Int32.ofInt nd))]) (st' := []) rfl rfl rfl ?_
  refine mi_wp_p (pc' := 18) (st' := [.int (Int32.ofInt 0)]) rfl rfl rfl ?_
  refine mi_wp_p (pc' := 19) (l' := [(3, .int (Int32.ofInt 0)), (2, .int (Int32.ofInt 0)), (0, .ref 52), (1, .int (Int32.ofInt nd))]) (st' := []) rfl rfl rfl ?_
  refine mi_wp_p (pc' := 20) (st' := [.int (Int32.ofInt 0)]) rfl rfl rfl ?_
  refine mi_wp_p (pc' := 21) (st' := [.int (Int32.ofInt 3), .int (Int32.ofInt 0)]) rfl rfl rfl ?_
  refine mi_s_if2 (t := 50) rfl rfl rfl (by unfold mi_R; omega) (by unfold mi_R; omega) (fun hc_ => absurd (show 3 ≤ (0 : Int) from hc_) (by omega)) (fun _ => ?_)
  refine mi_wp_p (pc' := 25) (st' := [.int (Int32.ofInt 0)]) rfl rfl rfl ?_
  refine mi_wp_p (pc' := 26) (st' := [.ref 52, .int (Int32.ofInt 0)]) rfl rfl rfl ?_
  refine ty_s_gr S rfl rfl rfl (List.mem_of_getElem? (i := 64) rfl) ?_
  refine mi_wp_p (pc' := 30) (st' := [.int (Int32.ofInt nd), .ref 9, .int (Int32.ofInt 0)]) rfl rfl rfl ?_
  refine mi_wp_p (pc' := 31) (st' := [.int (Int32.ofInt 0), .int (Int32.ofInt nd), .ref 9, .int (Int32.ofInt 0)]) rfl rfl rfl ?_
  refine ty_s_ci rfl rfl rfl rfl rfl rfl (mi_cal_v2 (np := 2) (args := [.ref 9, .int (Int32.ofInt nd), .int (Int32.ofInt 0)]) (rest := [.int (Int32.ofInt 0)]) rfl rfl rfl rfl rfl (Nat.le_of_ble_eq_true rfl) rfl rfl (Nat.le_of_ble_eq_true rfl) (ty_rcS S (List.mem_of_getElem? (i := 5) rfl))) (Nat.le_of_ble_eq_true rfl) S (ty_kidOf n0 n1 (by omega) (by rw [nr]; exact hk 0 (by omega) (by omega))) ?_
  intro x hh σu S f P
  obtain ⟨g1, g2⟩ := P
  rw [g2] at S
  rw [nr] at g1
  replace g1 : x = ty_K' σ nd 0 := g1
  rw [g1]
  clear g1 g2
  replace fr := mi_Fm_tr fr f
  refine mi_s_if1 (t := 41) rfl rfl rfl (by unfold mi_R; omega) (fun hc_ => absurd (show (ty_K' σ nd 0) = 0 from hc_) (by omega)) (fun _ => ?_)
  refine mi_wp_p (pc' := 38) (st' := [.int (Int32.ofInt 1), .int (Int32.ofInt 0)]) rfl rfl rfl ?_
  refine mi_wp_p (pc' := 42) rfl rfl rfl ?_
  refine mi_s_add rfl rfl ?_
  refine mi_s_top (b := 1) rfl ?_
  refine mi_wp_p (pc' := 44) (l' := [(2, .int (Int32.ofInt 1)), (3, .int (Int32.ofInt 0)), (0, .ref 52), (1, .int (Int32.ofInt nd))]) (st' := []) rfl rfl rfl ?_
  refine mi_s_inc (l' := [(3, .int (Int32.ofInt 1)), (2, .int (Int32.ofInt 1)), (0, .ref 52), (1, .int (Int32.ofInt nd))]) rfl rfl rfl (by decide) rfl ?_
  refine mi_wp_p (pc' := 19) rfl rfl rfl ?_
  refine mi_wp_p (pc' := 20) (st' := [.int (Int32.ofInt 1)]) rfl rfl rfl ?_
  refine mi_wp_p (pc' := 21) (st' := [.int (Int32.ofInt 3), .int (Int32.ofInt 1)]) rfl rfl rfl ?_
  refine mi_s_if2 (t := 50) rfl rfl rfl (by unfold mi_R; omega) (by unfold mi_R; omega) (fun hc_ => absurd (show 3 ≤ (1 : Int) from hc_) (by omega)) (fun _ => ?_)
  refine mi_wp_p (pc' := 25) (st' := [.int (Int32.ofInt 1)]) rfl rfl rfl ?_
  refine mi_wp_p (pc' := 26) (st' := [.ref 52, .int (Int32.ofInt 1)]) rfl rfl rfl ?_
  refine ty_s_gr S rfl rfl rfl (List.mem_of_getElem? (i := 64) rfl) ?_
  refine mi_wp_p (pc' := 30) (st' := [.int (Int32.ofInt nd), .ref 9, .int (Int32.ofInt 1)]) rfl rfl rfl ?_
  refine mi_wp_p (pc' := 31) (st' := [.int (Int32.ofInt 1), .int (Int32.ofInt nd), .ref 9, .int (Int32.ofInt 1)]) rfl rfl rfl ?_
  refine ty_s_ci rfl rfl rfl rfl rfl rfl (mi_cal_v2 (np := 2) (args := [.ref 9, .int (Int32.ofInt nd), .int (Int32.ofInt 1)]) (rest := [.int (Int32.ofInt 1)]) rfl rfl rfl rfl rfl (Nat.le_of_ble_eq_true rfl) rfl rfl (Nat.le_of_ble_eq_true rfl) (ty_rcS S (List.mem_of_getElem? (i := 5) rfl))) (Nat.le_of_ble_eq_true rfl) S (ty_kidOf n0 n1 (by omega) (by rw [nr]; exact hk 1 (by omega) (by omega))) ?_
  intro x hh σu S f P
  obtain ⟨g1, g2⟩ := P
  rw [g2] at S
  rw [nr] at g1
  replace g1 : x = ty_K' σ nd 1 := g1
  rw [k1] at g1
  rw [g1]
  clear g1 g2
  replace fr := mi_Fm_tr fr f
  refine mi_s_if1 (t := 41) rfl rfl rfl (by unfold mi_R; omega) (fun _ => ?_) (fun hc_ => absurd (show (0 : Int) = 0 by omega) hc_)
  refine mi_wp_p (pc' := 42) (st' := [.int (Int32.ofInt 0), .int (Int32.ofInt 1)]) rfl rfl rfl ?_
  refine mi_s_add rfl rfl ?_
  refine mi_s_top (b := 1) rfl ?_
  refine mi_wp_p (pc' := 44) (l' := [(2, .int (Int32.ofInt 1)), (3, .int (Int32.ofInt 1)), (0, .ref 52), (1, .int (Int32.ofInt nd))]) (st' := []) rfl rfl rfl ?_
  refine mi_s_inc (l' := [(3, .int (Int32.ofInt 2)), (2, .int (Int32.ofInt 1)), (0, .ref 52), (1, .int (Int32.ofInt nd))]) rfl rfl rfl (by decide) rfl ?_
  refine mi_wp_p (pc' := 19) rfl rfl rfl ?_
  refine mi_wp_p (pc' := 20) (st' := [.int (Int32.ofInt 2)]) rfl rfl rfl ?_
  refine mi_wp_p (pc' := 21) (st' := [.int (Int32.ofInt 3), .int (Int32.ofInt 2)]) rfl rfl rfl ?_
  refine mi_s_if2 (t := 50) rfl rfl rfl (by unfold mi_R; omega) (by unfold mi_R; omega) (fun hc_ => absurd (show 3 ≤ (2 : Int) from hc_) (by omega)) (fun _ => ?_)
  refine mi_wp_p (pc' := 25) (st' := [.int (Int32.ofInt 1)]) rfl rfl rfl ?_
  refine mi_wp_p (pc' := 26) (st' := [.ref 52, .int (Int32.ofInt 1)]) rfl rfl rfl ?_
  refine ty_s_gr S rfl rfl rfl (List.mem_of_getElem? (i := 64) rfl) ?_
  refine mi_wp_p (pc' := 30) (st' := [.int (Int32.ofInt nd), .ref 9, .int (Int32.ofInt 1)]) rfl rfl rfl ?_
  refine mi_wp_p (pc' := 31) (st' := [.int (Int32.ofInt 2), .int (Int32.ofInt nd), .ref 9, .int (Int32.ofInt 1)]) rfl rfl rfl ?_
  refine ty_s_ci rfl rfl rfl rfl rfl rfl (mi_cal_v2 (np := 2) (args := [.ref 9, .int (Int32.ofInt nd), .int (Int32.ofInt 2)]) (rest := [.int (Int32.ofInt 1)]) rfl rfl rfl rfl rfl (Nat.le_of_ble_eq_true rfl) rfl rfl (Nat.le_of_ble_eq_true rfl) (ty_rcS S (List.mem_of_getElem? (i := 5) rfl))) (Nat.le_of_ble_eq_true rfl) S (ty_kidOf n0 n1 (by omega) (by rw [nr]; exact hk 2 (by omega) (by omega))) ?_
  intro x hh σu S f P
  obtain ⟨g1, g2⟩ := P
  rw [g2] at S
  rw [nr] at g1
  replace g1 : x = ty_K' σ nd 2 := g1
  rw [k2] at g1
  rw [g1]
  clear g1 g2
  replace fr := mi_Fm_tr fr f
  refine mi_s_if1 (t := 41) rfl rfl rfl (by unfold mi_R; omega) (fun _ => ?_) (fun hc_ => absurd (show (0 : Int) = 0 by omega) hc_)
  refine mi_wp_p (pc' := 42) (st' := [.int (Int32.ofInt 0), .int (Int32.ofInt 1)]) rfl rfl rfl ?_
  refine mi_s_add rfl rfl ?_
  refine mi_s_top (b := 1) rfl ?_
  refine mi_wp_p (pc' := 44) (l' := [(2, .int (Int32.ofInt 1)), (3, .int (Int32.ofInt 2)), (0, .ref 52), (1, .int (Int32.ofInt nd))]) (st' := []) rfl rfl rfl ?_
  refine mi_s_inc (l' := [(3, .int (Int32.ofInt 3)), (2, .int (Int32.ofInt 1)), (0, .ref 52), (1, .int (Int32.ofInt nd))]) rfl rfl rfl (by decide) rfl ?_
  refine mi_wp_p (pc' := 19) rfl rfl rfl ?_
  refine mi_wp_p (pc' := 20) (st' := [.int (Int32.ofInt 3)]) rfl rfl rfl ?_
  refine mi_wp_p (pc' := 21) (st' := [.int (Int32.ofInt 3), .int (Int32.ofInt 3)]) rfl rfl rfl ?_
  refine mi_s_if2 (t := 50) rfl rfl rfl (by unfold mi_R; omega) (by unfold mi_R; omega) (fun _ => ?_) (fun hc_ => absurd (show 3 ≤ (3 : Int) by omega) hc_)
  refine mi_wp_p (pc' := 51) (st' := [.int (Int32.ofInt 1)]) rfl rfl rfl ?_
  exact ty_s_ret S fr rfl rfl rfl (mi_ret_i rfl) ⟨_, rfl, ⟨rfl, rfl⟩⟩
theorem wr_len_l {X : mi_X} {d : Nat} {h0 : mi_H} {Sx : Int → Prop} {T : Int → tr} {σ0 σ2 : mi_Sg} {nd : Int} (E : ga_E Sx (mi_sA σ0 12 nd) σ0 σ2) (Z : ty_Z σ0) (H : ty_T σ0 Sx T) (G7 : tg7 σ0 Sx) (K : kb σ0) (hz : 0 < nd) (h1 : nd < mi_sF σ0 9 8) : ∀ (m : Nat) (σ : mi_Sg) (i : Int), (mi_sF σ2 9 10 - i).toNat = m → 0 ≤ i → i ≤ mi_sF σ2 9 10 → ga_L (fun n => wln (T n)) σ2 σ i → ∀ h, ty_H h σ → mi_Fm h0 h → mi_wp X (d + 4) mi_M157 18 [(2, .int (Int32.ofInt i)), (0, .ref 52), (1, .int (Int32.ofInt nd))] [] h 0 0 (fun z => ∃ v h' σ', z = (.inl v, h', 0, 0) ∧ ty_H h' σ' ∧ mi_Fm h0 h' ∧ ∃ x, v = some (.int (Int32.ofInt x)) ∧ x = wln (T (mi_sA σ0 12 nd)) ∧ ga_E Sx (mi_sA σ0 12 nd) σ0 σ') := by
  intro m
  induction m using Nat.strongRecOn with
  | ind m ih =>
    intro σ i hm hi0 hi1 G h S fr
    have hu := ty_H_u S
    have e8 := G.1.2.2 9 8 (by decide)
    have e8b := E.1.2.2 9 8 (by decide)
    have e10 := G.1.2.2 9 10 (by decide)
    have hg := ga_E_g E (by omega)
    have F0 := sg_Af_tr E.1 (sg_Af_w G.1 (by decide) (by decide))
    by_cases hi : i < mi_sF σ 9 10
    · obtain ⟨⟨n1, n2⟩, n3, n4, n5⟩ := ga_L_n E Z G hi0 hi (by simp only [H.1]; rfl)
      have HT := ty_T_14 F0 H
      have ZT := (ga_E_M (ga_L_E E G) Z).2.2
      have a10 := sg_Af_Ak F0 (k := 10) (by decide)
      have GT : tg7 σ Sx := by
        unfold tg7
        rw [a10]
        exact G7
      have KT : kb σ := by
        have hE : ∀ i, mi_sE σ 18 i = mi_sE σ0 18 i := fun i => by unfold mi_sE; rw [F0.1]
        unfold kb at K ⊢
        rw [F0.2.2 17 12 (by decide), hE, hE, hE, sg_Af_Ak F0 (k := 19) (by decide)]
        exact K
      have eK : ∀ k, ty_K' σ0 (mi_sA σ 15 i) k = ty_K' σ (mi_sA σ 15 i) k := fun k => by
        unfold ty_K' ty_k
        rw [sg_Af_Ak F0 (k := 11) (by decide), sg_Af_Ak F0 (k := 12) (by decide)]
      obtain ⟨-, nr, -, -, c5, c6, c7⟩ := HT.2 _ n3
      have m0 := n5 0 (by omega) (by omega)
      rw [eK] at m0
      have m1 := n5 1 (by omega) (by omega)
      rw [eK] at m1
      have m2 := n5 2 (by omega) (by omega)
      rw [eK] at m2
      rcases GT _ n3 with ht | ht | ht | ht | ht | ht | ht
      · have z0 : ty_K' σ (mi_sA σ 15 i) 0 = 0 := (c7 0 (by omega) (by omega)).2 (by rw [ht]; decide)
        have z1 : ty_K' σ (mi_sA σ 15 i) 1 = 0 := (c7 1 (by omega) (by omega)).2 (by rw [ht]; decide)
        have z2 : ty_K' σ (mi_sA σ 15 i) 2 = 0 := (c7 2 (by omega) (by omega)).2 (by rw [ht]; decide)
        have hw : wl (T (mi_sA σ 15 i)) = 3 := by
          rw [c6 (by omega) (by omega), wl_tn, ht]
          rfl
        refine mi_wp_p (pc' := 19) (st' := [.int (Int32.ofInt i)]) rfl rfl rfl ?_
        refine mi_wp_p (pc' := 20) (st' := [.ref 52, .int (Int32.ofInt i)]) rfl rfl rfl ?_
        refine ty_s_gr S rfl rfl rfl (List.mem_of_getElem? (i := 64) rfl) ?_
        refine ty_s_ci rfl rfl rfl rfl rfl rfl (mi_cal_v2 (np := 0) (args := [.ref 9]) (rest := [.int (Int32.ofInt i)]) rfl rfl rfl rfl rfl (Nat.le_of_ble_eq_true rfl) rfl rfl (Nat.le_of_ble_eq_true rfl) (ty_rcS S (List.mem_of_getElem? (i := 5) rfl))) (Nat.le_of_ble_eq_true rfl) S ty_gathered ?_
        intro x hh σu S f P
        obtain ⟨e1, e2⟩ := P
        rw [e2] at S
        rw [e1]
        clear e1 e2
        replace fr := mi_Fm_tr fr f
        refine mi_s_if2 (t := 141) rfl rfl rfl (by unfold mi_R; omega) (by unfold mi_R; omega) (fun hc_ => absurd (show (mi_sF σ 9 10) ≤ i from hc_) (by omega)) (fun _ => ?_)
        refine mi_wp_p (pc' := 30) (st' := [.ref 52]) rfl rfl rfl ?_
        refine ty_s_gr S rfl rfl rfl (List.mem_of_getElem? (i := 64) rfl) ?_
        refine mi_wp_p (pc' := 34) (st' := [.int (Int32.ofInt i), .ref 9]) rfl rfl rfl ?_
        refine ty_s_ci rfl rfl rfl rfl rfl rfl (mi_cal_v2 (np := 1) (args := [.ref 9, .int (Int32.ofInt i)]) (rest := []) rfl rfl rfl rfl rfl (Nat.le_of_ble_eq_true rfl) rfl rfl (Nat.le_of_ble_eq_true rfl) (ty_rcS S (List.mem_of_getElem? (i := 5) rfl))) (Nat.le_of_ble_eq_true rfl) S (ty_gatheredAt hi0 hi (by omega)) ?_
        intro x hh σu S f P
        obtain ⟨e1, e2⟩ := P
        rw [e2] at S
        rw [e1]
        clear e1 e2
        replace fr := mi_Fm_tr fr f
        refine mi_wp_p (pc' := 38) (l' := [(3, .int (Int32.ofInt (mi_sA σ 15 i))), (2, .int (Int32.ofInt i)), (0, .ref 52), (1, .int (Int32.ofInt nd))]) (st' := []) rfl rfl rfl ?_
        refine mi_wp_p (pc' := 39) (st' := [.ref 52]) rfl rfl rfl ?_
        refine mi_wp_p (pc' := 40) (st' := [.ref 52, .ref 52]) rfl rfl rfl ?_
        refine ty_s_gr S rfl rfl rfl (List.mem_of_getElem? (i := 64) rfl) ?_
        refine mi_wp_p (pc' := 44) (st' := [.int (Int32.ofInt (mi_sA σ 15 i)), .ref 9, .ref 52]) rfl rfl rfl ?_
        refine ty_s_ci rfl rfl rfl rfl rfl rfl (mi_cal_v2 (np := 1) (args := [.ref 9, .int (Int32.ofInt (mi_sA σ 15 i))]) (rest := [.ref 52]) rfl rfl rfl rfl rfl (Nat.le_of_ble_eq_true rfl) rfl rfl (Nat.le_of_ble_eq_true rfl) (ty_rcS S (List.mem_of_getElem? (i := 5) rfl))) (Nat.le_of_ble_eq_true rfl) S (ty_tagOf (by omega) n2) ?_
        intro x hh σu S f P
        obtain ⟨g1, g2⟩ := P
        rw [g2] at S
        rw [g1, nr, ht]
        clear g1 g2
        replace fr := mi_Fm_tr fr f
        refine ty_s_ci rfl rfl rfl rfl rfl rfl (mi_cal_v2 (np := 1) (args := [.ref 52, .int (Int32.ofInt 1)]) (rest := []) rfl rfl rfl rfl rfl (Nat.le_of_ble_eq_true rfl) rfl rfl (Nat.le_of_ble_eq_true rfl) (ty_rcS S (List.mem_of_getElem? (i := 27) rfl))) (Nat.le_of_ble_eq_true rfl) S wr_own1 ?_
        intro x hh σu S f P
        obtain ⟨e1, e2⟩ := P
        rw [e2] at S
        rw [e1]
        clear e1 e2
        replace fr := mi_Fm_tr fr f
        refine mi_wp_p (pc' := 52) (l' := [(4, .int (Int32.ofInt 3)), (3, .int (Int32.ofInt (mi_sA σ 15 i))), (2, .int (Int32.ofInt i)), (0, .ref 52), (1, .int (Int32.ofInt nd))]) (st' := []) rfl rfl rfl ?_
        refine mi_wp_p (pc' := 53) (st' := [.int (Int32.ofInt 0)]) rfl rfl rfl ?_
        refine mi_wp_p (pc' := 55) (l' := [(5, .int (Int32.ofInt 0)), (4, .int (Int32.ofInt 3)), (3, .int (Int32.ofInt (mi_sA σ 15 i))), (2, .int (Int32.ofInt i)), (0, .ref 52), (1, .int (Int32.ofInt nd))]) (st' := []) rfl rfl rfl ?_
        refine mi_wp_p (pc' := 57) (st' := [.int (Int32.ofInt 0)]) rfl rfl rfl ?_
        refine mi_wp_p (pc' := 58) (st' := [.int (Int32.ofInt 3), .int (Int32.ofInt 0)]) rfl rfl rfl ?_
        refine mi_s_if2 (t := 114) rfl rfl rfl (by unfold mi_R; omega) (by unfold mi_R; omega) (fun hc_ => absurd (show 3 ≤ (0 : Int) from hc_) (by omega)) (fun _ => ?_)
        refine mi_wp_p (pc' := 62) (st' := [.ref 52]) rfl rfl rfl ?_
        refine ty_s_gr S rfl rfl rfl (List.mem_of_getElem? (i := 64) rfl) ?_
        refine mi_wp_p (pc' := 66) (st' := [.int (Int32.ofInt (mi_sA σ 15 i)), .ref 9]) rfl rfl rfl ?_
        refine mi_wp_p (pc' := 68) (st' := [.int (Int32.ofInt 0), .int (Int32.ofInt (mi_sA σ 15 i)), .ref 9]) rfl rfl rfl ?_
        refine ty_s_ci rfl rfl rfl rfl rfl rfl (mi_cal_v2 (np := 2) (args := [.ref 9, .int (Int32.ofInt (mi_sA σ 15 i)), .int (Int32.ofInt 0)]) (rest := []) rfl rfl rfl rfl rfl (Nat.le_of_ble_eq_true rfl) rfl rfl (Nat.le_of_ble_eq_true rfl) (ty_rcS S (List.mem_of_getElem? (i := 5) rfl))) (Nat.le_of_ble_eq_true rfl) S (ty_kidOf n1 n2 (by omega) (by rw [nr]; exact n4 0 (by omega) (by omega))) ?_
        intro x hh σu S f P
        obtain ⟨g1, g2⟩ := P
        rw [g2] at S
        rw [nr] at g1
        replace g1 : x = ty_K' σ (mi_sA σ 15 i) 0 := g1
        rw [z0] at g1
        rw [g1]
        clear g1 g2
        replace fr := mi_Fm_tr fr f
        refine mi_wp_p (pc' := 73) (l' := [(6, .int (Int32.ofInt 0)), (5, .int (Int32.ofInt 0)), (4, .int (Int32.ofInt 3)), (3, .int (Int32.ofInt (mi_sA σ 15 i))), (2, .int (Int32.ofInt i)), (0, .ref 52), (1, .int (Int32.ofInt nd))]) (st' := []) rfl rfl rfl ?_
        refine mi_wp_p (pc' := 75) (st' := [.int (Int32.ofInt 0)]) rfl rfl rfl ?_
        refine mi_s_if1 (t := 108) rfl rfl rfl (by unfold mi_R; omega) (fun _ => ?_) (fun hc_ => absurd (show (0 : Int) = 0 by omega) hc_)
        refine mi_s_inc (l' := [(5, .int (Int32.ofInt 1)), (6, .int (Int32.ofInt 0)), (4, .int (Int32.ofInt 3)), (3, .int (Int32.ofInt (mi_sA σ 15 i))), (2, .int (Int32.ofInt i)), (0, .ref 52), (1, .int (Int32.ofInt nd))]) rfl rfl rfl (by decide) rfl ?_
        refine mi_wp_p (pc' := 55) rfl rfl rfl ?_
        refine mi_wp_p (pc' := 57) (st' := [.int (Int32.ofInt 1)]) rfl rfl rfl ?_
        refine mi_wp_p (pc' := 58) (st' := [.int (Int32.ofInt 3), .int (Int32.ofInt 1)]) rfl rfl rfl ?_
        refine mi_s_if2 (t := 114) rfl rfl rfl (by unfold mi_R; omega) (by unfold mi_R; omega) (fun hc_ => absurd (show 3 ≤ (1 : Int) from hc_) (by omega)) (fun _ => ?_)
        refine mi_wp_p (pc' := 62) (st' := [.ref 52]) rfl rfl rfl ?_
        refine ty_s_gr S rfl rfl rfl (List.mem_of_getElem? (i := 64) rfl) ?_
        refine mi_wp_p (pc' := 66) (st' := [.int (Int32.ofInt (mi_sA σ 15 i)), .ref 9]) rfl rfl rfl ?_
        refine mi_wp_p (pc' := 68) (st' := [.int (Int32.ofInt 1), .int (Int32.ofInt (mi_sA σ 15 i)), .ref 9]) rfl rfl rfl ?_
        refine ty_s_ci rfl rfl rfl rfl rfl rfl (mi_cal_v2 (np := 2) (args := [.ref 9, .int (Int32.ofInt (mi_sA σ 15 i)), .int (Int32.ofInt 1)]) (rest := []) rfl rfl rfl rfl rfl (Nat.le_of_ble_eq_true rfl) rfl rfl (Nat.le_of_ble_eq_true rfl) (ty_rcS S (List.mem_of_getElem? (i := 5) rfl))) (Nat.le_of_ble_eq_true rfl) S (ty_kidOf n1 n2 (by omega) (by rw [nr]; exact n4 1 (by omega) (by omega))) ?_
        intro x hh σu S f P
        obtain ⟨g1, g2⟩ := P
        rw [g2] at S
        rw [nr] at g1
        replace g1 : x = ty_K' σ (mi_sA σ 15 i) 1 := g1
        rw [z1] at g1
        rw [g1]
        clear g1 g2
        replace fr := mi_Fm_tr fr f
        refine mi_wp_p (pc' := 73) (l' := [(6, .int (Int32.ofInt 0)), (5, .int (Int32.ofInt 1)), (4, .int (Int32.ofInt 3)), (3, .int (Int32.ofInt (mi_sA σ 15 i))), (2, .int (Int32.ofInt i)), (0, .ref 52), (1, .int (Int32.ofInt nd))]) (st' := []) rfl rfl rfl ?_
        refine mi_wp_p (pc' := 75) (st' := [.int (Int32.ofInt 0)]) rfl rfl rfl ?_
        refine mi_s_if1 (t := 108) rfl rfl rfl (by unfold mi_R; omega) (fun _ => ?_) (fun hc_ => absurd (show (0 : Int) = 0 by omega) hc_)
        refine mi_s_inc (l' := [(5, .int (Int32.ofInt 2)), (6, .int (Int32.ofInt 0)), (4, .int (Int32.ofInt 3)), (3, .int (Int32.ofInt (mi_sA σ 15 i))), (2, .int (Int32.ofInt i)), (0, .ref 52), (1, .int (Int32.ofInt nd))]) rfl rfl rfl (by decide) rfl ?_
        refine mi_wp_p (pc' := 55) rfl rfl rfl ?_
        refine mi_wp_p (pc' := 57) (st' := [.int (Int32.ofInt 2)]) rfl rfl rfl ?_
        refine mi_wp_p (pc' := 58) (st' := [.int (Int32.ofInt 3), .int (Int32.ofInt 2)]) rfl rfl rfl ?_
        refine mi_s_if2 (t := 114) rfl rfl rfl (by unfold mi_R; omega) (by unfold mi_R; omega) (fun hc_ => absurd (show 3 ≤ (2 : Int) from hc_) (by omega)) (fun _ => ?_)
        refine mi_wp_p (pc' := 62) (st' := [.ref 52]) rfl rfl rfl ?_
        refine ty_s_gr S rfl rfl rfl (List.mem_of_getElem? (i := 64) rfl) ?_
        refine mi_wp_p (pc' := 66) (st' := [.int (Int32.ofInt (mi_sA σ 15 i)), .ref 9]) rfl rfl rfl ?_
        refine mi_wp_p (pc' := 68) (st' := [.int (Int32.ofInt 2), .int (Int32.ofInt (mi_sA σ 15 i)), .ref 9]) rfl rfl rfl ?_
        refine ty_s_ci rfl rfl rfl rfl rfl rfl (mi_cal_v2 (np := 2) (args := [.ref 9, .int (Int32.ofInt (mi_sA σ 15 i)), .int (Int32.ofInt 2)]) (rest := []) rfl rfl rfl rfl rfl (Nat.le_of_ble_eq_true rfl) rfl rfl (Nat.le_of_ble_eq_true rfl) (ty_rcS S (List.mem_of_getElem? (i := 5) rfl))) (Nat.le_of_ble_eq_true rfl) S (ty_kidOf n1 n2 (by omega) (by rw [nr]; exact n4 2 (by omega) (by omega))) ?_
        intro x hh σu S f P
        obtain ⟨g1, g2⟩ := P
        rw [g2] at S
        rw [nr] at g1
        replace g1 : x = ty_K' σ (mi_sA σ 15 i) 2 := g1
        rw [z2] at g1
        rw [g1]
        clear g1 g2
        replace fr := mi_Fm_tr fr f
        refine mi_wp_p (pc' := 73) (l' := [(6, .int (Int32.ofInt 0)), (5, .int (Int32.ofInt 2)), (4, .int (Int32.ofInt 3)), (3, .int (Int32.ofInt (mi_sA σ 15 i))), (2, .int (Int32.ofInt i)), (0, .ref 52), (1, .int (Int32.ofInt nd))]) (st' := []) rfl rfl rfl ?_
        refine mi_wp_p (pc' := 75) (st' := [.int (Int32.ofInt 0)]) rfl rfl rfl ?_
        refine mi_s_if1 (t := 108) rfl rfl rfl (by unfold mi_R; omega) (fun _ => ?_) (fun hc_ => absurd (show (0 : Int) = 0 by omega) hc_)
        refine mi_s_inc (l' := [(5, .int (Int32.ofInt 3)), (6, .int (Int32.ofInt 0)), (4, .int (Int32.ofInt 3)), (3, .int (Int32.ofInt (mi_sA σ 15 i))), (2, .int (Int32.ofInt i)), (0, .ref 52), (1, .int (Int32.ofInt nd))]) rfl rfl rfl (by decide) rfl ?_
        refine mi_wp_p (pc' := 55) rfl rfl rfl ?_
        refine mi_wp_p (pc' := 57) (st' := [.int (Int32.ofInt 3)]) rfl rfl rfl ?_
        refine mi_wp_p (pc' := 58) (st' := [.int (Int32.ofInt 3), .int (Int32.ofInt 3)]) rfl rfl rfl ?_
        refine mi_s_if2 (t := 114) rfl rfl rfl (by unfold mi_R; omega) (by unfold mi_R; omega) (fun _ => ?_) (fun hc_ => absurd (show 3 ≤ (3 : Int) by omega) hc_)
        refine mi_wp_p (pc' := 115) (st' := [.ref 52]) rfl rfl rfl ?_
        refine ty_s_gr S rfl rfl rfl (List.mem_of_getElem? (i := 64) rfl) ?_
        refine mi_wp_p (pc' := 119) (st' := [.int (Int32.ofInt (mi_sA σ 15 i)), .ref 9]) rfl rfl rfl ?_
        refine mi_wp_p (pc' := 121) (st' := [.int (Int32.ofInt 3), .int (Int32.ofInt (mi_sA σ 15 i)), .ref 9]) rfl rfl rfl ?_
        refine mi_wp_p (pc' := 122) (st' := [.ref 52, .int (Int32.ofInt 3), .int (Int32.ofInt (mi_sA σ 15 i)), .ref 9]) rfl rfl rfl ?_
        refine mi_wp_p (pc' := 123) (st' := [.int (Int32.ofInt (mi_sA σ 15 i)), .ref 52, .int (Int32.ofInt 3), .int (Int32.ofInt (mi_sA σ 15 i)), .ref 9]) rfl rfl rfl ?_
        refine ty_s_ci rfl rfl rfl rfl rfl rfl (mi_cal_v2 (np := 1) (args := [.ref 52, .int (Int32.ofInt (mi_sA σ 15 i))]) (rest := [.int (Int32.ofInt 3), .int (Int32.ofInt (mi_sA σ 15 i)), .ref 9]) rfl rfl rfl rfl rfl (Nat.le_of_ble_eq_true rfl) rfl rfl (Nat.le_of_ble_eq_true rfl) (ty_rcS S (List.mem_of_getElem? (i := 27) rfl))) (Nat.le_of_ble_eq_true rfl) S (wr_blanks0 n1 n2 nr (by omega) (by omega)) ?_
        intro x hh σu S f P
        obtain ⟨e1, e2⟩ := P
        rw [e2] at S
        rw [e1]
        clear e1 e2
        replace fr := mi_Fm_tr fr f
        refine mi_s_add rfl rfl ?_
        refine mi_s_top (b := 3) rfl ?_
        refine mi_s_ldc (e := 1000000) rfl rfl rfl (by decide +kernel) ?_
        refine mi_s_mn rfl rfl rfl (Nat.le_of_ble_eq_true rfl) (by unfold mi_R; omega) (by unfold mi_R; omega) ?_
        refine ty_s_cv rfl rfl rfl rfl rfl rfl (mi_cal_v2 (np := 2) (args := [.ref 9, .int (Int32.ofInt (mi_sA σ 15 i)), .int (Int32.ofInt (min 3 1000000))]) (rest := []) rfl rfl rfl rfl rfl (Nat.le_of_ble_eq_true rfl) rfl rfl (Nat.le_of_ble_eq_true rfl) (ty_rcS S (List.mem_of_getElem? (i := 5) rfl))) (Nat.le_of_ble_eq_true rfl) S (ty_setNote (by omega) n2) ?_
        intro hh σ3 S f P
        rw [nr] at P
        subst P
        replace fr := mi_Fm_tr fr f
        refine mi_s_inc (l' := [(2, .int (Int32.ofInt (i + 1))), (5, .int (Int32.ofInt 3)), (6, .int (Int32.ofInt 0)), (4, .int (Int32.ofInt 3)), (3, .int (Int32.ofInt (mi_sA σ 15 i))), (0, .ref 52), (1, .int (Int32.ofInt nd))]) rfl rfl rfl (by decide) rfl ?_
        refine mi_wp_p (pc' := 18) rfl rfl rfl ?_
        refine mi_wp_lw (l := [(2, .int (Int32.ofInt (i + 1))), (0, .ref 52), (1, .int (Int32.ofInt nd))]) (mi_lw_of (show List.Nodup [2, 0, 1] by decide) ⟨rfl, rfl, rfl, trivial⟩) ?_
        refine ih _ (by omega) _ (i + 1) rfl (by omega) (by omega) (ga_L_set E G hi0 hi ?_) _ S fr
        · show _ = wln (T (mi_sA σ 15 i))
          unfold wln at *
          rw [hw] <;> omega
      · have z0 : ty_K' σ (mi_sA σ 15 i) 0 = 0 := (c7 0 (by omega) (by omega)).2 (by rw [ht]; decide)
        have z1 : ty_K' σ (mi_sA σ 15 i) 1 = 0 := (c7 1 (by omega) (by omega)).2 (by rw [ht]; decide)
        have z2 : ty_K' σ (mi_sA σ 15 i) 2 = 0 := (c7 2 (by omega) (by omega)).2 (by rw [ht]; decide)
        have hw : wl (T (mi_sA σ 15 i)) = 4 := by
          rw [c6 (by omega) (by omega), wl_tn, ht]
          rfl
        refine mi_wp_p (pc' := 19) (st' := [.int (Int32.ofInt i)]) rfl rfl rfl ?_
        refine mi_wp_p (pc' := 20) (st' := [.ref 52, .int (Int32.ofInt i)]) rfl rfl rfl ?_
        refine ty_s_gr S rfl rfl rfl (List.mem_of_getElem? (i := 64) rfl) ?_
        refine ty_s_ci rfl rfl rfl rfl rfl rfl (mi_cal_v2 (np := 0) (args := [.ref 9]) (rest := [.int (Int32.ofInt i)]) rfl rfl rfl rfl rfl (Nat.le_of_ble_eq_true rfl) rfl rfl (Nat.le_of_ble_eq_true rfl) (ty_rcS S (List.mem_of_getElem? (i := 5) rfl))) (Nat.le_of_ble_eq_true rfl) S ty_gathered ?_
        intro x hh σu S f P
        obtain ⟨e1, e2⟩ := P
        rw [e2] at S
        rw [e1]
        clear e1 e2
        replace fr := mi_Fm_tr fr f
        refine mi_s_if2 (t := 141) rfl rfl rfl (by unfold mi_R; omega) (by unfold mi_R; omega) (fun hc_ => absurd (show (mi_sF σ 9 10) ≤ i from hc_) (by omega)) (fun _ => ?_)
        refine mi_wp_p (pc' := 30) (st' := [.ref 52]) rfl rfl rfl ?_
        refine ty_s_gr S rfl rfl rfl (List.mem_of_getElem? (i := 64) rfl) ?_
        refine mi_wp_p (pc' := 34) (st' := [.int (Int32.ofInt i), .ref 9]) rfl rfl rfl ?_
        refine ty_s_ci rfl rfl rfl rfl rfl rfl (mi_cal_v2 (np := 1) (args := [.ref 9, .int (Int32.ofInt i)]) (rest := []) rfl rfl rfl rfl rfl (Nat.le_of_ble_eq_true rfl) rfl rfl (Nat.le_of_ble_eq_true rfl) (ty_rcS S (List.mem_of_getElem? (i := 5) rfl))) (Nat.le_of_ble_eq_true rfl) S (ty_gatheredAt hi0 hi (by omega)) ?_
        intro x hh σu S f P
        obtain ⟨e1, e2⟩ := P
        rw [e2] at S
        rw [e1]
        clear e1 e2
        replace fr := mi_Fm_tr fr f
        refine mi_wp_p (pc' := 38) (l' := [(3, .int (Int32.ofInt (mi_sA σ 15 i))), (2, .int (Int32.ofInt i)), (0, .ref 52), (1, .int (Int32.ofInt nd))]) (st' := []) rfl rfl rfl ?_
        refine mi_wp_p (pc' := 39) (st' := [.ref 52]) rfl rfl rfl ?_
        refine mi_wp_p (pc' := 40) (st' := [.ref 52, .ref 52]) rfl rfl rfl ?_
        refine ty_s_gr S rfl rfl rfl (List.mem_of_getElem? (i := 64) rfl) ?_
        refine mi_wp_p (pc' := 44) (st' := [.int (Int32.ofInt (mi_sA σ 15 i)), .ref 9, .ref 52]) rfl rfl rfl ?_
        refine ty_s_ci rfl rfl rfl rfl rfl rfl (mi_cal_v2 (np := 1) (args := [.ref 9, .int (Int32.ofInt (mi_sA σ 15 i))]) (rest := [.ref 52]) rfl rfl rfl rfl rfl (Nat.le_of_ble_eq_true rfl) rfl rfl (Nat.le_of_ble_eq_true rfl) (ty_rcS S (List.mem_of_getElem? (i := 5) rfl))) (Nat.le_of_ble_eq_true rfl) S (ty_tagOf (by omega) n2) ?_
        intro x hh σu S f P
        obtain ⟨g1, g2⟩ := P
        rw [g2] at S
        rw [g1, nr, ht]
        clear g1 g2
        replace fr := mi_Fm_tr fr f
        refine ty_s_ci rfl rfl rfl rfl rfl rfl (mi_cal_v2 (np := 1) (args := [.ref 52, .int (Int32.ofInt 2)]) (rest := []) rfl rfl rfl rfl rfl (Nat.le_of_ble_eq_true rfl) rfl rfl (Nat.le_of_ble_eq_true rfl) (ty_rcS S (List.mem_of_getElem? (i := 27) rfl))) (Nat.le_of_ble_eq_true rfl) S wr_own2 ?_
        intro x hh σu S f P
        obtain ⟨e1, e2⟩ := P
        rw [e2] at S
        rw [e1]
        clear e1 e2
        replace fr := mi_Fm_tr fr f
        refine mi_wp_p (pc' := 52) (l' := [(4, .int (Int32.ofInt 4)), (3, .int (Int32.ofInt (mi_sA σ 15 i))), (2, .int (Int32.ofInt i)), (0, .ref 52), (1, .int (Int32.ofInt nd))]) (st' := []) rfl rfl rfl ?_
        refine mi_wp_p (pc' := 53) (st' := [.int (Int32.ofInt 0)]) rfl rfl rfl ?_
        refine mi_wp_p (pc' := 55) (l' := [(5, .int (Int32.ofInt 0)), (4, .int (Int32.ofInt 4)), (3, .int (Int32.ofInt (mi_sA σ 15 i))), (2, .int (Int32.ofInt i)), (0, .ref 52), (1, .int (Int32.ofInt nd))]) (st' := []) rfl rfl rfl ?_
        refine mi_wp_p (pc' := 57) (st' := [.int (Int32.ofInt 0)]) rfl rfl rfl ?_
        refine mi_wp_p (pc' := 58) (st' := [.int (Int32.ofInt 3), .int (Int32.ofInt 0)]) rfl rfl rfl ?_
        refine mi_s_if2 (t := 114) rfl rfl rfl (by unfold mi_R; omega) (by unfold mi_R; omega) (fun hc_ => absurd (show 3 ≤ (0 : Int) from hc_) (by omega)) (fun _ => ?_)
        refine mi_wp_p (pc' := 62) (st' := [.ref 52]) rfl rfl rfl ?_
        refine ty_s_gr S rfl rfl rfl (List.mem_of_getElem? (i := 64) rfl) ?_
        refine mi_wp_p (pc' := 66) (st' := [.int (Int32.ofInt (mi_sA σ 15 i)), .ref 9]) rfl rfl rfl ?_
        refine mi_wp_p (pc' := 68) (st' := [.int (Int32.ofInt 0), .int (Int32.ofInt (mi_sA σ 15 i)), .ref 9]) rfl rfl rfl ?_
        refine ty_s_ci rfl rfl rfl rfl rfl rfl (mi_cal_v2 (np := 2) (args := [.ref 9, .int (Int32.ofInt (mi_sA σ 15 i)), .int (Int32.ofInt 0)]) (rest := []) rfl rfl rfl rfl rfl (Nat.le_of_ble_eq_true rfl) rfl rfl (Nat.le_of_ble_eq_true rfl) (ty_rcS S (List.mem_of_getElem? (i := 5) rfl))) (Nat.le_of_ble_eq_true rfl) S (ty_kidOf n1 n2 (by omega) (by rw [nr]; exact n4 0 (by omega) (by omega))) ?_
        intro x hh σu S f P
        obtain ⟨g1, g2⟩ := P
        rw [g2] at S
        rw [nr] at g1
        replace g1 : x = ty_K' σ (mi_sA σ 15 i) 0 := g1
        rw [z0] at g1
        rw [g1]
        clear g1 g2
        replace fr := mi_Fm_tr fr f
        refine mi_wp_p (pc' := 73) (l' := [(6, .int (Int32.ofInt 0)), (5, .int (Int32.ofInt 0)), (4, .int (Int32.ofInt 4)), (3, .int (Int32.ofInt (mi_sA σ 15 i))), (2, .int (Int32.ofInt i)), (0, .ref 52), (1, .int (Int32.ofInt nd))]) (st' := []) rfl rfl rfl ?_
        refine mi_wp_p (pc' := 75) (st' := [.int (Int32.ofInt 0)]) rfl rfl rfl ?_
        refine mi_s_if1 (t := 108) rfl rfl rfl (by unfold mi_R; omega) (fun _ => ?_) (fun hc_ => absurd (show (0 : Int) = 0 by omega) hc_)
        refine mi_s_inc (l' := [(5, .int (Int32.ofInt 1)), (6, .int (Int32.ofInt 0)), (4, .int (Int32.ofInt 4)), (3, .int (Int32.ofInt (mi_sA σ 15 i))), (2, .int (Int32.ofInt i)), (0, .ref 52), (1, .int (Int32.ofInt nd))]) rfl rfl rfl (by decide) rfl ?_
        refine mi_wp_p (pc' := 55) rfl rfl rfl ?_
        refine mi_wp_p (pc' := 57) (st' := [.int (Int32.ofInt 1)]) rfl rfl rfl ?_
        refine mi_wp_p (pc' := 58) (st' := [.int (Int32.ofInt 3), .int (Int32.ofInt 1)]) rfl rfl rfl ?_
        refine mi_s_if2 (t := 114) rfl rfl rfl (by unfold mi_R; omega) (by unfold mi_R; omega) (fun hc_ => absurd (show 3 ≤ (1 : Int) from hc_) (by omega)) (fun _ => ?_)
        refine mi_wp_p (pc' := 62) (st' := [.ref 52]) rfl rfl rfl ?_
        refine ty_s_gr S rfl rfl rfl (List.mem_of_getElem? (i := 64) rfl) ?_
        refine mi_wp_p (pc' := 66) (st' := [.int (Int32.ofInt (mi_sA σ 15 i)), .ref 9]) rfl rfl rfl ?_
        refine mi_wp_p (pc' := 68) (st' := [.int (Int32.ofInt 1), .int (Int32.ofInt (mi_sA σ 15 i)), .ref 9]) rfl rfl rfl ?_
        refine ty_s_ci rfl rfl rfl rfl rfl rfl (mi_cal_v2 (np := 2) (args := [.ref 9, .int (Int32.ofInt (mi_sA σ 15 i)), .int (Int32.ofInt 1)]) (rest := []) rfl rfl rfl rfl rfl (Nat.le_of_ble_eq_true rfl) rfl rfl (Nat.le_of_ble_eq_true rfl) (ty_rcS S (List.mem_of_getElem? (i := 5) rfl))) (Nat.le_of_ble_eq_true rfl) S (ty_kidOf n1 n2 (by omega) (by rw [nr]; exact n4 1 (by omega) (by omega))) ?_
        intro x hh σu S f P
        obtain ⟨g1, g2⟩ := P
        rw [g2] at S
        rw [nr] at g1
        replace g1 : x = ty_K' σ (mi_sA σ 15 i) 1 := g1
        rw [z1] at g1
        rw [g1]
        clear g1 g2
        replace fr := mi_Fm_tr fr f
        refine mi_wp_p (pc' := 73) (l' := [(6, .int (Int32.ofInt 0)), (5, .int (Int32.ofInt 1)), (4, .int (Int32.ofInt 4)), (3, .int (Int32.ofInt (mi_sA σ 15 i))), (2, .int (Int32.ofInt i)), (0, .ref 52), (1, .int (Int32.ofInt nd))]) (st' := []) rfl rfl rfl ?_
        refine mi_wp_p (pc' := 75) (st' := [.int (Int32.ofInt 0)]) rfl rfl rfl ?_
        refine mi_s_if1 (t := 108) rfl rfl rfl (by unfold mi_R; omega) (fun _ => ?_) (fun hc_ => absurd (show (0 : Int) = 0 by omega) hc_)
        refine mi_s_inc (l' := [(5, .int (Int32.ofInt 2)), (6, .int (Int32.ofInt 0)), (4, .int (Int32.ofInt 4)), (3, .int (Int32.ofInt (mi_sA σ 15 i))), (2, .int (Int32.ofInt i)), (0, .ref 52), (1, .int (Int32.ofInt nd))]) rfl rfl rfl (by decide) rfl ?_
        refine mi_wp_p (pc' := 55) rfl rfl rfl ?_
        refine mi_wp_p (pc' := 57) (st' := [.int (Int32.ofInt 2)]) rfl rfl rfl ?_
        refine mi_wp_p (pc' := 58) (st' := [.int (Int32.ofInt 3), .int (Int32.ofInt 2)]) rfl rfl rfl ?_
        refine mi_s_if2 (t := 114) rfl rfl rfl (by unfold mi_R; omega) (by unfold mi_R; omega) (fun hc_ => absurd (show 3 ≤ (2 : Int) from hc_) (by omega)) (fun _ => ?_)
        refine mi_wp_p (pc' := 62) (st' := [.ref 52]) rfl rfl rfl ?_
        refine ty_s_gr S rfl rfl rfl (List.mem_of_getElem? (i := 64) rfl) ?_
        refine mi_wp_p (pc' := 66) (st' := [.int (Int32.ofInt (mi_sA σ 15 i)), .ref 9]) rfl rfl rfl ?_
        refine mi_wp_p (pc' := 68) (st' := [.int (Int32.ofInt 2), .int (Int32.ofInt (mi_sA σ 15 i)), .ref 9]) rfl rfl rfl ?_
        refine ty_s_ci rfl rfl rfl rfl rfl rfl (mi_cal_v2 (np := 2) (args := [.ref 9, .int (Int32.ofInt (mi_sA σ 15 i)), .int (Int32.ofInt 2)]) (rest := []) rfl rfl rfl rfl rfl (Nat.le_of_ble_eq_true rfl) rfl rfl (Nat.le_of_ble_eq_true rfl) (ty_rcS S (List.mem_of_getElem? (i := 5) rfl))) (Nat.le_of_ble_eq_true rfl) S (ty_kidOf n1 n2 (by omega) (by rw [nr]; exact n4 2 (by omega) (by omega))) ?_
        intro x hh σu S f P
        obtain ⟨g1, g2⟩ := P
        rw [g2] at S
        rw [nr] at g1
        replace g1 : x = ty_K' σ (mi_sA σ 15 i) 2 := g1
        rw [z2] at g1
        rw [g1]
        clear g1 g2
        replace fr := mi_Fm_tr fr f
        refine mi_wp_p (pc' := 73) (l' := [(6, .int (Int32.ofInt 0)), (5, .int (Int32.ofInt 2)), (4, .int (Int32.ofInt 4)), (3, .int (Int32.ofInt (mi_sA σ 15 i))), (2, .int (Int32.ofInt i)), (0, .ref 52), (1, .int (Int32.ofInt nd))]) (st' := []) rfl rfl rfl ?_
        refine mi_wp_p (pc' := 75) (st' := [.int (Int32.ofInt 0)]) rfl rfl rfl ?_
        refine mi_s_if1 (t := 108) rfl rfl rfl (by unfold mi_R; omega) (fun _ => ?_) (fun hc_ => absurd (show (0 : Int) = 0 by omega) hc_)
        refine mi_s_inc (l' := [(5, .int (Int32.ofInt 3)), (6, .int (Int32.ofInt 0)), (4, .int (Int32.ofInt 4)), (3, .int (Int32.ofInt (mi_sA σ 15 i))), (2, .int (Int32.ofInt i)), (0, .ref 52), (1, .int (Int32.ofInt nd))]) rfl rfl rfl (by decide) rfl ?_
        refine mi_wp_p (pc' := 55) rfl rfl rfl ?_
        refine mi_wp_p (pc' := 57) (st' := [.int (Int32.ofInt 3)]) rfl rfl rfl ?_
        refine mi_wp_p (pc' := 58) (st' := [.int (Int32.ofInt 3), .int (Int32.ofInt 3)]) rfl rfl rfl ?_
        refine mi_s_if2 (t := 114) rfl rfl rfl (by unfold mi_R; omega) (by unfold mi_R; omega) (fun _ => ?_) (fun hc_ => absurd (show 3 ≤ (3 : Int) by omega) hc_)
        refine mi_wp_p (pc' := 115) (st' := [.ref 52]) rfl rfl rfl ?_
        refine ty_s_gr S rfl rfl rfl (List.mem_of_getElem? (i := 64) rfl) ?_
        refine mi_wp_p (pc' := 119) (st' := [.int (Int32.ofInt (mi_sA σ 15 i)), .ref 9]) rfl rfl rfl ?_
        refine mi_wp_p (pc' := 121) (st' := [.int (Int32.ofInt 4), .int (Int32.ofInt (mi_sA σ 15 i)), .ref 9]) rfl rfl rfl ?_
        refine mi_wp_p (pc' := 122) (st' := [.ref 52, .int (Int32.ofInt 4), .int (Int32.ofInt (mi_sA σ 15 i)), .ref 9]) rfl rfl rfl ?_
        refine mi_wp_p (pc' := 123) (st' := [.int (Int32.ofInt (mi_sA σ 15 i)), .ref 52, .int (Int32.ofInt 4), .int (Int32.ofInt (mi_sA σ 15 i)), .ref 9]) rfl rfl rfl ?_
        refine ty_s_ci rfl rfl rfl rfl rfl rfl (mi_cal_v2 (np := 1) (args := [.ref 52, .int (Int32.ofInt (mi_sA σ 15 i))]) (rest := [.int (Int32.ofInt 4), .int (Int32.ofInt (mi_sA σ 15 i)), .ref 9]) rfl rfl rfl rfl rfl (Nat.le_of_ble_eq_true rfl) rfl rfl (Nat.le_of_ble_eq_true rfl) (ty_rcS S (List.mem_of_getElem? (i := 27) rfl))) (Nat.le_of_ble_eq_true rfl) S (wr_blanks0 n1 n2 nr (by omega) (by omega)) ?_
        intro x hh σu S f P
        obtain ⟨e1, e2⟩ := P
        rw [e2] at S
        rw [e1]
        clear e1 e2
        replace fr := mi_Fm_tr fr f
        refine mi_s_add rfl rfl ?_
        refine mi_s_top (b := 4) rfl ?_
        refine mi_s_ldc (e := 1000000) rfl rfl rfl (by decide +kernel) ?_
        refine mi_s_mn rfl rfl rfl (Nat.le_of_ble_eq_true rfl) (by unfold mi_R; omega) (by unfold mi_R; omega) ?_
        refine ty_s_cv rfl rfl rfl rfl rfl rfl (mi_cal_v2 (np := 2) (args := [.ref 9, .int (Int32.ofInt (mi_sA σ 15 i)), .int (Int32.ofInt (min 4 1000000))]) (rest := []) rfl rfl rfl rfl rfl (Nat.le_of_ble_eq_true rfl) rfl rfl (Nat.le_of_ble_eq_true rfl) (ty_rcS S (List.mem_of_getElem? (i := 5) rfl))) (Nat.le_of_ble_eq_true rfl) S (ty_setNote (by omega) n2) ?_
        intro hh σ3 S f P
        rw [nr] at P
        subst P
        replace fr := mi_Fm_tr fr f
        refine mi_s_inc (l' := [(2, .int (Int32.ofInt (i + 1))), (5, .int (Int32.ofInt 3)), (6, .int (Int32.ofInt 0)), (4, .int (Int32.ofInt 4)), (3, .int (Int32.ofInt (mi_sA σ 15 i))), (0, .ref 52), (1, .int (Int32.ofInt nd))]) rfl rfl rfl (by decide) rfl ?_
        refine mi_wp_p (pc' := 18) rfl rfl rfl ?_
        refine mi_wp_lw (l := [(2, .int (Int32.ofInt (i + 1))), (0, .ref 52), (1, .int (Int32.ofInt nd))]) (mi_lw_of (show List.Nodup [2, 0, 1] by decide) ⟨rfl, rfl, rfl, trivial⟩) ?_
        refine ih _ (by omega) _ (i + 1) rfl (by omega) (by omega) (ga_L_set E G hi0 hi ?_) _ S fr
        · show _ = wln (T (mi_sA σ 15 i))
          unfold wln at *
          rw [hw] <;> omega
      · have z0 : ty_K' σ (mi_sA σ 15 i) 0 = 0 := (c7 0 (by omega) (by omega)).2 (by rw [ht]; decide)
        have z1 : ty_K' σ (mi_sA σ 15 i) 1 = 0 := (c7 1 (by omega) (by omega)).2 (by rw [ht]; decide)
        have z2 : ty_K' σ (mi_sA σ 15 i) 2 = 0 := (c7 2 (by omega) (by omega)).2 (by rw [ht]; decide)
        have hw : wl (T (mi_sA σ 15 i)) = 2 := by
          rw [(c5 (by omega)).1, wl]
        refine mi_wp_p (pc' := 19) (st' := [.int (Int32.ofInt i)]) rfl rfl rfl ?_
        refine mi_wp_p (pc' := 20) (st' := [.ref 52, .int (Int32.ofInt i)]) rfl rfl rfl ?_
        refine ty_s_gr S rfl rfl rfl (List.mem_of_getElem? (i := 64) rfl) ?_
        refine ty_s_ci rfl rfl rfl rfl rfl rfl (mi_cal_v2 (np := 0) (args := [.ref 9]) (rest := [.int (Int32.ofInt i)]) rfl rfl rfl rfl rfl (Nat.le_of_ble_eq_true rfl) rfl rfl (Nat.le_of_ble_eq_true rfl) (ty_rcS S (List.mem_of_getElem? (i := 5) rfl))) (Nat.le_of_ble_eq_true rfl) S ty_gathered ?_
        intro x hh σu S f P
        obtain ⟨e1, e2⟩ := P
        rw [e2] at S
        rw [e1]
        clear e1 e2
        replace fr := mi_Fm_tr fr f
        refine mi_s_if2 (t := 141) rfl rfl rfl (by unfold mi_R; omega) (by unfold mi_R; omega) (fun hc_ => absurd (show (mi_sF σ 9 10) ≤ i from hc_) (by omega)) (fun _ => ?_)
        refine mi_wp_p (pc' := 30) (st' := [.ref 52]) rfl rfl rfl ?_
        refine ty_s_gr S rfl rfl rfl (List.mem_of_getElem? (i := 64) rfl) ?_
        refine mi_wp_p (pc' := 34) (st' := [.int (Int32.ofInt i), .ref 9]) rfl rfl rfl ?_
        refine ty_s_ci rfl rfl rfl rfl rfl rfl (mi_cal_v2 (np := 1) (args := [.ref 9, .int (Int32.ofInt i)]) (rest := []) rfl rfl rfl rfl rfl (Nat.le_of_ble_eq_true rfl) rfl rfl (Nat.le_of_ble_eq_true rfl) (ty_rcS S (List.mem_of_getElem? (i := 5) rfl))) (Nat.le_of_ble_eq_true rfl) S (ty_gatheredAt hi0 hi (by omega)) ?_
        intro x hh σu S f P
        obtain ⟨e1, e2⟩ := P
        rw [e2] at S
        rw [e1]
        clear e1 e2
        replace fr := mi_Fm_tr fr f
        refine mi_wp_p (pc' := 38) (l' := [(3, .int (Int32.ofInt (mi_sA σ 15 i))), (2, .int (Int32.ofInt i)), (0, .ref 52), (1, .int (Int32.ofInt nd))]) (st' := []) rfl rfl rfl ?_
        refine mi_wp_p (pc' := 39) (st' := [.ref 52]) rfl rfl rfl ?_
        refine mi_wp_p (pc' := 40) (st' := [.ref 52, .ref 52]) rfl rfl rfl ?_
        refine ty_s_gr S rfl rfl rfl (List.mem_of_getElem? (i := 64) rfl) ?_
        refine mi_wp_p (pc' := 44) (st' := [.int (Int32.ofInt (mi_sA σ 15 i)), .ref 9, .ref 52]) rfl rfl rfl ?_
        refine ty_s_ci rfl rfl rfl rfl rfl rfl (mi_cal_v2 (np := 1) (args := [.ref 9, .int (Int32.ofInt (mi_sA σ 15 i))]) (rest := [.ref 52]) rfl rfl rfl rfl rfl (Nat.le_of_ble_eq_true rfl) rfl rfl (Nat.le_of_ble_eq_true rfl) (ty_rcS S (List.mem_of_getElem? (i := 5) rfl))) (Nat.le_of_ble_eq_true rfl) S (ty_tagOf (by omega) n2) ?_
        intro x hh σu S f P
        obtain ⟨g1, g2⟩ := P
        rw [g2] at S
        rw [g1, nr, ht]
        clear g1 g2
        replace fr := mi_Fm_tr fr f
        refine ty_s_ci rfl rfl rfl rfl rfl rfl (mi_cal_v2 (np := 1) (args := [.ref 52, .int (Int32.ofInt 3)]) (rest := []) rfl rfl rfl rfl rfl (Nat.le_of_ble_eq_true rfl) rfl rfl (Nat.le_of_ble_eq_true rfl) (ty_rcS S (List.mem_of_getElem? (i := 27) rfl))) (Nat.le_of_ble_eq_true rfl) S wr_own3 ?_
        intro x hh σu S f P
        obtain ⟨e1, e2⟩ := P
        rw [e2] at S
        rw [e1]
        clear e1 e2
        replace fr := mi_Fm_tr fr f
        refine mi_wp_p (pc' := 52) (l' := [(4, .int (Int32.ofInt 2)), (3, .int (Int32.ofInt (mi_sA σ 15 i))), (2, .int (Int32.ofInt i)), (0, .ref 52), (1, .int (Int32.ofInt nd))]) (st' := []) rfl rfl rfl ?_
        refine mi_wp_p (pc' := 53) (st' := [.int (Int32.ofInt 0)]) rfl rfl rfl ?_
        refine mi_wp_p (pc' := 55) (l' := [(5, .int (Int32.ofInt 0)), (4, .int (Int32.ofInt 2)), (3, .int (Int32.ofInt (mi_sA σ 15 i))), (2, .int (Int32.ofInt i)), (0, .ref 52), (1, .int (Int32.ofInt nd))]) (st' := []) rfl rfl rfl ?_
        refine mi_wp_p (pc' := 57) (st' := [.int (Int32.ofInt 0)]) rfl rfl rfl ?_
        refine mi_wp_p (pc' := 58) (st' := [.int (Int32.ofInt 3), .int (Int32.ofInt 0)]) rfl rfl rfl ?_
        refine mi_s_if2 (t := 114) rfl rfl rfl (by unfold mi_R; omega) (by unfold mi_R; omega) (fun hc_ => absurd (show 3 ≤ (0 : Int) from hc_) (by omega)) (fun _ => ?_)
        refine mi_wp_p (pc' := 62) (st' := [.ref 52]) rfl rfl rfl ?_
        refine ty_s_gr S rfl rfl rfl (List.mem_of_getElem? (i := 64) rfl) ?_
        refine mi_wp_p (pc' := 66) (st' := [.int (Int32.ofInt (mi_sA σ 15 i)), .ref 9]) rfl rfl rfl ?_
        refine mi_wp_p (pc' := 68) (st' := [.int (Int32.ofInt 0), .int (Int32.ofInt (mi_sA σ 15 i)), .ref 9]) rfl rfl rfl ?_
        refine ty_s_ci rfl rfl rfl rfl rfl rfl (mi_cal_v2 (np := 2) (args := [.ref 9, .int (Int32.ofInt (mi_sA σ 15 i)), .int (Int32.ofInt 0)]) (rest := []) rfl rfl rfl rfl rfl (Nat.le_of_ble_eq_true rfl) rfl rfl (Nat.le_of_ble_eq_true rfl) (ty_rcS S (List.mem_of_getElem? (i := 5) rfl))) (Nat.le_of_ble_eq_true rfl) S (ty_kidOf n1 n2 (by omega) (by rw [nr]; exact n4 0 (by omega) (by omega))) ?_
        intro x hh σu S f P
        obtain ⟨g1, g2⟩ := P
        rw [g2] at S
        rw [nr] at g1
        replace g1 : x = ty_K' σ (mi_sA σ 15 i) 0 := g1
        rw [z0] at g1
        rw [g1]
        clear g1 g2
        replace fr := mi_Fm_tr fr f
        refine mi_wp_p (pc' := 73) (l' := [(6, .int (Int32.ofInt 0)), (5, .int (Int32.ofInt 0)), (4, .int (Int32.ofInt 2)), (3, .int (Int32.ofInt (mi_sA σ 15 i))), (2, .int (Int32.ofInt i)), (0, .ref 52), (1, .int (Int32.ofInt nd))]) (st' := []) rfl rfl rfl ?_
        refine mi_wp_p (pc' := 75) (st' := [.int (Int32.ofInt 0)]) rfl rfl rfl ?_
        refine mi_s_if1 (t := 108) rfl rfl rfl (by unfold mi_R; omega) (fun _ => ?_) (fun hc_ => absurd (show (0 : Int) = 0 by omega) hc_)
        refine mi_s_inc (l' := [(5, .int (Int32.ofInt 1)), (6, .int (Int32.ofInt 0)), (4, .int (Int32.ofInt 2)), (3, .int (Int32.ofInt (mi_sA σ 15 i))), (2, .int (Int32.ofInt i)), (0, .ref 52), (1, .int (Int32.ofInt nd))]) rfl rfl rfl (by decide) rfl ?_
        refine mi_wp_p (pc' := 55) rfl rfl rfl ?_
        refine mi_wp_p (pc' := 57) (st' := [.int (Int32.ofInt 1)]) rfl rfl rfl ?_
        refine mi_wp_p (pc' := 58) (st' := [.int (Int32.ofInt 3), .int (Int32.ofInt 1)]) rfl rfl rfl ?_
        refine mi_s_if2 (t := 114) rfl rfl rfl (by unfold mi_R; omega) (by unfold mi_R; omega) (fun hc_ => absurd (show 3 ≤ (1 : Int) from hc_) (by omega)) (fun _ => ?_)
        refine mi_wp_p (pc' := 62) (st' := [.ref 52]) rfl rfl rfl ?_
        refine ty_s_gr S rfl rfl rfl (List.mem_of_getElem? (i := 64) rfl) ?_
        refine mi_wp_p (pc' := 66) (st' := [.int (Int32.ofInt (mi_sA σ 15 i)), .ref 9]) rfl rfl rfl ?_
        refine mi_wp_p (pc' := 68) (st' := [.int (Int32.ofInt 1), .int (Int32.ofInt (mi_sA σ 15 i)), .ref 9]) rfl rfl rfl ?_
        refine ty_s_ci rfl rfl rfl rfl rfl rfl (mi_cal_v2 (np := 2) (args := [.ref 9, .int (Int32.ofInt (mi_sA σ 15 i)), .int (Int32.ofInt 1)]) (rest := []) rfl rfl rfl rfl rfl (Nat.le_of_ble_eq_true rfl) rfl rfl (Nat.le_of_ble_eq_true rfl) (ty_rcS S (List.mem_of_getElem? (i := 5) rfl))) (Nat.le_of_ble_eq_true rfl) S (ty_kidOf n1 n2 (by omega) (by rw [nr]; exact n4 1 (by omega) (by omega))) ?_
        intro x hh σu S f P
        obtain ⟨g1, g2⟩ := P
        rw [g2] at S
        rw [nr] at g1
        replace g1 : x = ty_K' σ (mi_sA σ 15 i) 1 := g1
        rw [z1] at g1
        rw [g1]
        clear g1 g2
        replace fr := mi_Fm_tr fr f
        refine mi_wp_p (pc' := 73) (l' := [(6, .int (Int32.ofInt 0)), (5, .int (Int32.ofInt 1)), (4, .int (Int32.ofInt 2)), (3, .int (Int32.ofInt (mi_sA σ 15 i))), (2, .int (Int32.ofInt i)), (0, .ref 52), (1, .int (Int32.ofInt nd))]) (st' := []) rfl rfl rfl ?_
        refine mi_wp_p (pc' := 75) (st' := [.int (Int32.ofInt 0)]) rfl rfl rfl ?_
        refine mi_s_if1 (t := 108) rfl rfl rfl (by unfold mi_R; omega) (fun _ => ?_) (fun hc_ => absurd (show (0 : Int) = 0 by omega) hc_)
        refine mi_s_inc (l' := [(5, .int (Int32.ofInt 2)), (6, .int (Int32.ofInt 0)), (4, .int (Int32.ofInt 2)), (3, .int (Int32.ofInt (mi_sA σ 15 i))), (2, .int (Int32.ofInt i)), (0, .ref 52), (1, .int (Int32.ofInt nd))]) rfl rfl rfl (by decide) rfl ?_
        refine mi_wp_p (pc' := 55) rfl rfl rfl ?_
        refine mi_wp_p (pc' := 57) (st' := [.int (Int32.ofInt 2)]) rfl rfl rfl ?_
        refine mi_wp_p (pc' := 58) (st' := [.int (Int32.ofInt 3), .int (Int32.ofInt 2)]) rfl rfl rfl ?_
        refine mi_s_if2 (t := 114) rfl rfl rfl (by unfold mi_R; omega) (by unfold mi_R; omega) (fun hc_ => absurd (show 3 ≤ (2 : Int) from hc_) (by omega)) (fun _ => ?_)
        refine mi_wp_p (pc' := 62) (st' := [.ref 52]) rfl rfl rfl ?_
        refine ty_s_gr S rfl rfl rfl (List.mem_of_getElem? (i := 64) rfl) ?_
        refine mi_wp_p (pc' := 66) (st' := [.int (Int32.ofInt (mi_sA σ 15 i)), .ref 9]) rfl rfl rfl ?_
        refine mi_wp_p (pc' := 68) (st' := [.int (Int32.ofInt 2), .int (Int32.ofInt (mi_sA σ 15 i)), .ref 9]) rfl rfl rfl ?_
        refine ty_s_ci rfl rfl rfl rfl rfl rfl (mi_cal_v2 (np := 2) (args := [.ref 9, .int (Int32.ofInt (mi_sA σ 15 i)), .int (Int32.ofInt 2)]) (rest := []) rfl rfl rfl rfl rfl (Nat.le_of_ble_eq_true rfl) rfl rfl (Nat.le_of_ble_eq_true rfl) (ty_rcS S (List.mem_of_getElem? (i := 5) rfl))) (Nat.le_of_ble_eq_true rfl) S (ty_kidOf n1 n2 (by omega) (by rw [nr]; exact n4 2 (by omega) (by omega))) ?_
        intro x hh σu S f P
        obtain ⟨g1, g2⟩ := P
        rw [g2] at S
        rw [nr] at g1
        replace g1 : x = ty_K' σ (mi_sA σ 15 i) 2 := g1
        rw [z2] at g1
        rw [g1]
        clear g1 g2
        replace fr := mi_Fm_tr fr f
        refine mi_wp_p (pc' := 73) (l' := [(6, .int (Int32.ofInt 0)), (5, .int (Int32.ofInt 2)), (4, .int (Int32.ofInt 2)), (3, .int (Int32.ofInt (mi_sA σ 15 i))), (2, .int (Int32.ofInt i)), (0, .ref 52), (1, .int (Int32.ofInt nd))]) (st' := []) rfl rfl rfl ?_
        refine mi_wp_p (pc' := 75) (st' := [.int (Int32.ofInt 0)]) rfl rfl rfl ?_
        refine mi_s_if1 (t := 108) rfl rfl rfl (by unfold mi_R; omega) (fun _ => ?_) (fun hc_ => absurd (show (0 : Int) = 0 by omega) hc_)
        refine mi_s_inc (l' := [(5, .int (Int32.ofInt 3)), (6, .int (Int32.ofInt 0)), (4, .int (Int32.ofInt 2)), (3, .int (Int32.ofInt (mi_sA σ 15 i))), (2, .int (Int32.ofInt i)), (0, .ref 52), (1, .int (Int32.ofInt nd))]) rfl rfl rfl (by decide) rfl ?_
        refine mi_wp_p (pc' := 55) rfl rfl rfl ?_
        refine mi_wp_p (pc' := 57) (st' := [.int (Int32.ofInt 3)]) rfl rfl rfl ?_
        refine mi_wp_p (pc' := 58) (st' := [.int (Int32.ofInt 3), .int (Int32.ofInt 3)]) rfl rfl rfl ?_
        refine mi_s_if2 (t := 114) rfl rfl rfl (by unfold mi_R; omega) (by unfold mi_R; omega) (fun _ => ?_) (fun hc_ => absurd (show 3 ≤ (3 : Int) by omega) hc_)
        refine mi_wp_p (pc' := 115) (st' := [.ref 52]) rfl rfl rfl ?_
        refine ty_s_gr S rfl rfl rfl (List.mem_of_getElem? (i := 64) rfl) ?_
        refine mi_wp_p (pc' := 119) (st' := [.int (Int32.ofInt (mi_sA σ 15 i)), .ref 9]) rfl rfl rfl ?_
        refine mi_wp_p (pc' := 121) (st' := [.int (Int32.ofInt 2), .int (Int32.ofInt (mi_sA σ 15 i)), .ref 9]) rfl rfl rfl ?_
        refine mi_wp_p (pc' := 122) (st' := [.ref 52, .int (Int32.ofInt 2), .int (Int32.ofInt (mi_sA σ 15 i)), .ref 9]) rfl rfl rfl ?_
        refine mi_wp_p (pc' := 123) (st' := [.int (Int32.ofInt (mi_sA σ 15 i)), .ref 52, .int (Int32.ofInt 2), .int (Int32.ofInt (mi_sA σ 15 i)), .ref 9]) rfl rfl rfl ?_
        refine ty_s_ci rfl rfl rfl rfl rfl rfl (mi_cal_v2 (np := 1) (args := [.ref 52, .int (Int32.ofInt (mi_sA σ 15 i))]) (rest := [.int (Int32.ofInt 2), .int (Int32.ofInt (mi_sA σ 15 i)), .ref 9]) rfl rfl rfl rfl rfl (Nat.le_of_ble_eq_true rfl) rfl rfl (Nat.le_of_ble_eq_true rfl) (ty_rcS S (List.mem_of_getElem? (i := 27) rfl))) (Nat.le_of_ble_eq_true rfl) S (wr_blanks0 n1 n2 nr (by omega) (by omega)) ?_
        intro x hh σu S f P
        obtain ⟨e1, e2⟩ := P
        rw [e2] at S
        rw [e1]
        clear e1 e2
        replace fr := mi_Fm_tr fr f
        refine mi_s_add rfl rfl ?_
        refine mi_s_top (b := 2) rfl ?_
        refine mi_s_ldc (e := 1000000) rfl rfl rfl (by decide +kernel) ?_
        refine mi_s_mn rfl rfl rfl (Nat.le_of_ble_eq_true rfl) (by unfold mi_R; omega) (by unfold mi_R; omega) ?_
        refine ty_s_cv rfl rfl rfl rfl rfl rfl (mi_cal_v2 (np := 2) (args := [.ref 9, .int (Int32.ofInt (mi_sA σ 15 i)), .int (Int32.ofInt (min 2 1000000))]) (rest := []) rfl rfl rfl rfl rfl (Nat.le_of_ble_eq_true rfl) rfl rfl (Nat.le_of_ble_eq_true rfl) (ty_rcS S (List.mem_of_getElem? (i := 5) rfl))) (Nat.le_of_ble_eq_true rfl) S (ty_setNote (by omega) n2) ?_
        intro hh σ3 S f P
        rw [nr] at P
        subst P
        replace fr := mi_Fm_tr fr f
        refine mi_s_inc (l' := [(2, .int (Int32.ofInt (i + 1))), (5, .int (Int32.ofInt 3)), (6, .int (Int32.ofInt 0)), (4, .int (Int32.ofInt 2)), (3, .int (Int32.ofInt (mi_sA σ 15 i))), (0, .ref 52), (1, .int (Int32.ofInt nd))]) rfl rfl rfl (by decide) rfl ?_
        refine mi_wp_p (pc' := 18) rfl rfl rfl ?_
        refine mi_wp_lw (l := [(2, .int (Int32.ofInt (i + 1))), (0, .ref 52), (1, .int (Int32.ofInt nd))]) (mi_lw_of (show List.Nodup [2, 0, 1] by decide) ⟨rfl, rfl, rfl, trivial⟩) ?_
        refine ih _ (by omega) _ (i + 1) rfl (by omega) (by omega) (ga_L_set E G hi0 hi ?_) _ S fr
        · show _ = wln (T (mi_sA σ 15 i))
          unfold wln at *
          rw [hw] <;> omega
      · have z0 : ty_K' σ (mi_sA σ 15 i) 0 = 0 := (c7 0 (by omega) (by omega)).2 (by rw [ht]; decide)
        have z1 : ty_K' σ (mi_sA σ 15 i) 1 = 0 := (c7 1 (by omega) (by omega)).2 (by rw [ht]; decide)
        have z2 : ty_K' σ (mi_sA σ 15 i) 2 = 0 := (c7 2 (by omega) (by omega)).2 (by rw [ht]; decide)
        have hw : wl (T (mi_sA σ 15 i)) = 2 := by
          rw [(c5 (by omega)).1, wl]
        refine mi_wp_p (pc' := 19) (st' := [.int (Int32.ofInt i)]) rfl rfl rfl ?_
        refine mi_wp_p (pc' := 20) (st' := [.ref 52, .int (Int32.ofInt i)]) rfl rfl rfl ?_
        refine ty_s_gr S rfl rfl rfl (List.mem_of_getElem? (i := 64) rfl) ?_
        refine ty_s_ci rfl rfl rfl rfl rfl rfl (mi_cal_v2 (np := 0) (args := [.ref 9]) (rest := [.int (Int32.ofInt i)]) rfl rfl rfl rfl rfl (Nat.le_of_ble_eq_true rfl) rfl rfl (Nat.le_of_ble_eq_true rfl) (ty_rcS S (List.mem_of_getElem? (i := 5) rfl))) (Nat.le_of_ble_eq_true rfl) S ty_gathered ?_
        intro x hh σu S f P
        obtain ⟨e1, e2⟩ := P
        rw [e2] at S
        rw [e1]
        clear e1 e2
        replace fr := mi_Fm_tr fr f
        refine mi_s_if2 (t := 141) rfl rfl rfl (by unfold mi_R; omega) (by unfold mi_R; omega) (fun hc_ => absurd (show (mi_sF σ 9 10) ≤ i from hc_) (by omega)) (fun _ => ?_)
        refine mi_wp_p (pc' := 30) (st' := [.ref 52]) rfl rfl rfl ?_
        refine ty_s_gr S rfl rfl rfl (List.mem_of_getElem? (i := 64) rfl) ?_
        refine mi_wp_p (pc' := 34) (st' := [.int (Int32.ofInt i), .ref 9]) rfl rfl rfl ?_
        refine ty_s_ci rfl rfl rfl rfl rfl rfl (mi_cal_v2 (np := 1) (args := [.ref 9, .int (Int32.ofInt i)]) (rest := []) rfl rfl rfl rfl rfl (Nat.le_of_ble_eq_true rfl) rfl rfl (Nat.le_of_ble_eq_true rfl) (ty_rcS S (List.mem_of_getElem? (i := 5) rfl))) (Nat.le_of_ble_eq_true rfl) S (ty_gatheredAt hi0 hi (by omega)) ?_
        intro x hh σu S f P
        obtain ⟨e1, e2⟩ := P
        rw [e2] at S
        rw [e1]
        clear e1 e2
        replace fr := mi_Fm_tr fr f
        refine mi_wp_p (pc' := 38) (l' := [(3, .int (Int32.ofInt (mi_sA σ 15 i))), (2, .int (Int32.ofInt i)), (0, .ref 52), (1, .int (Int32.ofInt nd))]) (st' := []) rfl rfl rfl ?_
        refine mi_wp_p (pc' := 39) (st' := [.ref 52]) rfl rfl rfl ?_
        refine mi_wp_p (pc' := 40) (st' := [.ref 52, .ref 52]) rfl rfl rfl ?_
        refine ty_s_gr S rfl rfl rfl (List.mem_of_getElem? (i := 64) rfl) ?_
        refine mi_wp_p (pc' := 44) (st' := [.int (Int32.ofInt (mi_sA σ 15 i)), .ref 9, .ref 52]) rfl rfl rfl ?_
        refine ty_s_ci rfl rfl rfl rfl rfl rfl (mi_cal_v2 (np := 1) (args := [.ref 9, .int (Int32.ofInt (mi_sA σ 15 i))]) (rest := [.ref 52]) rfl rfl rfl rfl rfl (Nat.le_of_ble_eq_true rfl) rfl rfl (Nat.le_of_ble_eq_true rfl) (ty_rcS S (List.mem_of_getElem? (i := 5) rfl))) (Nat.le_of_ble_eq_true rfl) S (ty_tagOf (by omega) n2) ?_
        intro x hh σu S f P
        obtain ⟨g1, g2⟩ := P
        rw [g2] at S
        rw [g1, nr, ht]
        clear g1 g2
        replace fr := mi_Fm_tr fr f
        refine ty_s_ci rfl rfl rfl rfl rfl rfl (mi_cal_v2 (np := 1) (args := [.ref 52, .int (Int32.ofInt 4)]) (rest := []) rfl rfl rfl rfl rfl (Nat.le_of_ble_eq_true rfl) rfl rfl (Nat.le_of_ble_eq_true rfl) (ty_rcS S (List.mem_of_getElem? (i := 27) rfl))) (Nat.le_of_ble_eq_true rfl) S wr_own4 ?_
        intro x hh σu S f P
        obtain ⟨e1, e2⟩ := P
        rw [e2] at S
        rw [e1]
        clear e1 e2
        replace fr := mi_Fm_tr fr f
        refine mi_wp_p (pc' := 52) (l' := [(4, .int (Int32.ofInt 2)), (3, .int (Int32.ofInt (mi_sA σ 15 i))), (2, .int (Int32.ofInt i)), (0, .ref 52), (1, .int (Int32.ofInt nd))]) (st' := []) rfl rfl rfl ?_
        refine mi_wp_p (pc' := 53) (st' := [.int (Int32.ofInt 0)]) rfl rfl rfl ?_
        refine mi_wp_p (pc' := 55) (l' := [(5, .int (Int32.ofInt 0)), (4, .int (Int32.ofInt 2)), (3, .int (Int32.ofInt (mi_sA σ 15 i))), (2, .int (Int32.ofInt i)), (0, .ref 52), (1, .int (Int32.ofInt nd))]) (st' := []) rfl rfl rfl ?_
        refine mi_wp_p (pc' := 57) (st' := [.int (Int32.ofInt 0)]) rfl rfl rfl ?_
        refine mi_wp_p (pc' := 58) (st' := [.int (Int32.ofInt 3), .int (Int32.ofInt 0)]) rfl rfl rfl ?_
        refine mi_s_if2 (t := 114) rfl rfl rfl (by unfold mi_R; omega) (by unfold mi_R; omega) (fun hc_ => absurd (show 3 ≤ (0 : Int) from hc_) (by omega)) (fun _ => ?_)
        refine mi_wp_p (pc' := 62) (st' := [.ref 52]) rfl rfl rfl ?_
        refine ty_s_gr S rfl rfl rfl (List.mem_of_getElem? (i := 64) rfl) ?_
        refine mi_wp_p (pc' := 66) (st' := [.int (Int32.ofInt (mi_sA σ 15 i)), .ref 9]) rfl rfl rfl ?_
        refine mi_wp_p (pc' := 68) (st' := [.int (Int32.ofInt 0), .int (Int32.ofInt (mi_sA σ 15 i)), .ref 9]) rfl rfl rfl ?_
        refine ty_s_ci rfl rfl rfl rfl rfl rfl (mi_cal_v2 (np := 2) (args := [.ref 9, .int (Int32.ofInt (mi_sA σ 15 i)), .int (Int32.ofInt 0)]) (rest := []) rfl rfl rfl rfl rfl (Nat.le_of_ble_eq_true rfl) rfl rfl (Nat.le_of_ble_eq_true rfl) (ty_rcS S (List.mem_of_getElem? (i := 5) rfl))) (Nat.le_of_ble_eq_true rfl) S (ty_kidOf n1 n2 (by omega) (by rw [nr]; exact n4 0 (by omega) (by omega))) ?_
        intro x hh σu S f P
        obtain ⟨g1, g2⟩ := P
        rw [g2] at S
        rw [nr] at g1
        replace g1 : x = ty_K' σ (mi_sA σ 15 i) 0 := g1
        rw [z0] at g1
        rw [g1]
        clear g1 g2
        replace fr := mi_Fm_tr fr f
        refine mi_wp_p (pc' := 73) (l' := [(6, .int (Int32.ofInt 0)), (5, .int (Int32.ofInt 0)), (4, .int (Int32.ofInt 2)), (3, .int (Int32.ofInt (mi_sA σ 15 i))), (2, .int (Int32.ofInt i)), (0, .ref 52), (1, .int (Int32.ofInt nd))]) (st' := []) rfl rfl rfl ?_
        refine mi_wp_p (pc' := 75) (st' := [.int (Int32.ofInt 0)]) rfl rfl rfl ?_
        refine mi_s_if1 (t := 108) rfl rfl rfl (by unfold mi_R; omega) (fun _ => ?_) (fun hc_ => absurd (show (0 : Int) = 0 by omega) hc_)
        refine mi_s_inc (l' := [(5, .int (Int32.ofInt 1)), (6, .int (Int32.ofInt 0)), (4, .int (Int32.ofInt 2)), (3, .int (Int32.ofInt (mi_sA σ 15 i))), (2, .int (Int32.ofInt i)), (0, .ref 52), (1, .int (Int32.ofInt nd))]) rfl rfl rfl (by decide) rfl ?_
        refine mi_wp_p (pc' := 55) rfl rfl rfl ?_
        refine mi_wp_p (pc' := 57) (st' := [.int (Int32.ofInt 1)]) rfl rfl rfl ?_
        refine mi_wp_p (pc' := 58) (st' := [.int (Int32.ofInt 3), .int (Int32.ofInt 1)]) rfl rfl rfl ?_
        refine mi_s_if2 (t := 114) rfl rfl rfl (by unfold mi_R; omega) (by unfold mi_R; omega) (fun hc_ => absurd (show 3 ≤ (1 : Int) from hc_) (by omega)) (fun _ => ?_)
        refine mi_wp_p (pc' := 62) (st' := [.ref 52]) rfl rfl rfl ?_
        refine ty_s_gr S rfl rfl rfl (List.mem_of_getElem? (i := 64) rfl) ?_
        refine mi_wp_p (pc' := 66) (st' := [.int (Int32.ofInt (mi_sA σ 15 i)), .ref 9]) rfl rfl rfl ?_
        refine mi_wp_p (pc' := 68) (st' := [.int (Int32.ofInt 1), .int (Int32.ofInt (mi_sA σ 15 i)), .ref 9]) rfl rfl rfl ?_
        refine ty_s_ci rfl rfl rfl rfl rfl rfl (mi_cal_v2 (np := 2) (args := [.ref 9, .int (Int32.ofInt (mi_sA σ 15 i)), .int (Int32.ofInt 1)]) (rest := []) rfl rfl rfl rfl rfl (Nat.le_of_ble_eq_true rfl) rfl rfl (Nat.le_of_ble_eq_true rfl) (ty_rcS S (List.mem_of_getElem? (i := 5) rfl))) (Nat.le_of_ble_eq_true rfl) S (ty_kidOf n1 n2 (by omega) (by rw [nr]; exact n4 1 (by omega) (by omega))) ?_
        intro x hh σu S f P
        obtain ⟨g1, g2⟩ := P
        rw [g2] at S
        rw [nr] at g1
        replace g1 : x = ty_K' σ (mi_sA σ 15 i) 1 := g1
        rw [z1] at g1
        rw [g1]
        clear g1 g2
        replace fr := mi_Fm_tr fr f
        refine mi_wp_p (pc' := 73) (l' := [(6, .int (Int32.ofInt 0)), (5, .int (Int32.ofInt 1)), (4, .int (Int32.ofInt 2)), (3, .int (Int32.ofInt (mi_sA σ 15 i))), (2, .int (Int32.ofInt i)), (0, .ref 52), (1, .int (Int32.ofInt nd))]) (st' := []) rfl rfl rfl ?_
        refine mi_wp_p (pc' := 75) (st' := [.int (Int32.ofInt 0)]) rfl rfl rfl ?_
        refine mi_s_if1 (t := 108) rfl rfl rfl (by unfold mi_R; omega) (fun _ => ?_) (fun hc_ => absurd (show (0 : Int) = 0 by omega) hc_)
        refine mi_s_inc (l' := [(5, .int (Int32.ofInt 2)), (6, .int (Int32.ofInt 0)), (4, .int (Int32.ofInt 2)), (3, .int (Int32.ofInt (mi_sA σ 15 i))), (2, .int (Int32.ofInt i)), (0, .ref 52), (1, .int (Int32.ofInt nd))]) rfl rfl rfl (by decide) rfl ?_
        refine mi_wp_p (pc' := 55) rfl rfl rfl ?_
        refine mi_wp_p (pc' := 57) (st' := [.int (Int32.ofInt 2)]) rfl rfl rfl ?_
        refine mi_wp_p (pc' := 58) (st' := [.int (Int32.ofInt 3), .int (Int32.ofInt 2)]) rfl rfl rfl ?_
        refine mi_s_if2 (t := 114) rfl rfl rfl (by unfold mi_R; omega) (by unfold mi_R; omega) (fun hc_ => absurd (show 3 ≤ (2 : Int) from hc_) (by omega)) (fun _ => ?_)
        refine mi_wp_p (pc' := 62) (st' := [.ref 52]) rfl rfl rfl ?_
        refine ty_s_gr S rfl rfl rfl (List.mem_of_getElem? (i := 64) rfl) ?_
        refine mi_wp_p (pc' := 66) (st' := [.int (Int32.ofInt (mi_sA σ 15 i)), .ref 9]) rfl rfl rfl ?_
        refine mi_wp_p (pc' := 68) (st' := [.int (Int32.ofInt 2), .int (Int32.ofInt (mi_sA σ 15 i)), .ref 9]) rfl rfl rfl ?_
        refine ty_s_ci rfl rfl rfl rfl rfl rfl (mi_cal_v2 (np := 2) (args := [.ref 9, .int (Int32.ofInt (mi_sA σ 15 i)), .int (Int32.ofInt 2)]) (rest := []) rfl rfl rfl rfl rfl (Nat.le_of_ble_eq_true rfl) rfl rfl (Nat.le_of_ble_eq_true rfl) (ty_rcS S (List.mem_of_getElem? (i := 5) rfl))) (Nat.le_of_ble_eq_true rfl) S (ty_kidOf n1 n2 (by omega) (by rw [nr]; exact n4 2 (by omega) (by omega))) ?_
        intro x hh σu S f P
        obtain ⟨g1, g2⟩ := P
        rw [g2] at S
        rw [nr] at g1
        replace g1 : x = ty_K' σ (mi_sA σ 15 i) 2 := g1
        rw [z2] at g1
        rw [g1]
        clear g1 g2
        replace fr := mi_Fm_tr fr f
        refine mi_wp_p (pc' := 73) (l' := [(6, .int (Int32.ofInt 0)), (5, .int (Int32.ofInt 2)), (4, .int (Int32.ofInt 2)), (3, .int (Int32.ofInt (mi_sA σ 15 i))), (2, .int (Int32.ofInt i)), (0, .ref 52), (1, .int (Int32.ofInt nd))]) (st' := []) rfl rfl rfl ?_
        refine mi_wp_p (pc' := 75) (st' := [.int (Int32.ofInt 0)]) rfl rfl rfl ?_
        refine mi_s_if1 (t := 108) rfl rfl rfl (by unfold mi_R; omega) (fun _ => ?_) (fun hc_ => absurd (show (0 : Int) = 0 by omega) hc_)
        refine mi_s_inc (l' := [(5, .int (Int32.ofInt 3)), (6, .int (Int32.ofInt 0)), (4, .int (Int32.ofInt 2)), (3, .int (Int32.ofInt (mi_sA σ 15 i))), (2, .int (Int32.ofInt i)), (0, .ref 52), (1, .int (Int32.ofInt nd))]) rfl rfl rfl (by decide) rfl ?_
        refine mi_wp_p (pc' := 55) rfl rfl rfl ?_
        refine mi_wp_p (pc' := 57) (st' := [.int (Int32.ofInt 3)]) rfl rfl rfl ?_
        refine mi_wp_p (pc' := 58) (st' := [.int (Int32.ofInt 3), .int (Int32.ofInt 3)]) rfl rfl rfl ?_
        refine mi_s_if2 (t := 114) rfl rfl rfl (by unfold mi_R; omega) (by unfold mi_R; omega) (fun _ => ?_) (fun hc_ => absurd (show 3 ≤ (3 : Int) by omega) hc_)
        refine mi_wp_p (pc' := 115) (st' := [.ref 52]) rfl rfl rfl ?_
        refine ty_s_gr S rfl rfl rfl (List.mem_of_getElem? (i := 64) rfl) ?_
        refine mi_wp_p (pc' := 119) (st' := [.int (Int32.ofInt (mi_sA σ 15 i)), .ref 9]) rfl rfl rfl ?_
        refine mi_wp_p (pc' := 121) (st' := [.int (Int32.ofInt 2), .int (Int32.ofInt (mi_sA σ 15 i)), .ref 9]) rfl rfl rfl ?_
        refine mi_wp_p (pc' := 122) (st' := [.ref 52, .int (Int32.ofInt 2), .int (Int32.ofInt (mi_sA σ 15 i)), .ref 9]) rfl rfl rfl ?_
        refine mi_wp_p (pc' := 123) (st' := [.int (Int32.ofInt (mi_sA σ 15 i)), .ref 52, .int (Int32.ofInt 2), .int (Int32.ofInt (mi_sA σ 15 i)), .ref 9]) rfl rfl rfl ?_
        refine ty_s_ci rfl rfl rfl rfl rfl rfl (mi_cal_v2 (np := 1) (args := [.ref 52, .int (Int32.ofInt (mi_sA σ 15 i))]) (rest := [.int (Int32.ofInt 2), .int (Int32.ofInt (mi_sA σ 15 i)), .ref 9]) rfl rfl rfl rfl rfl (Nat.le_of_ble_eq_true rfl) rfl rfl (Nat.le_of_ble_eq_true rfl) (ty_rcS S (List.mem_of_getElem? (i := 27) rfl))) (Nat.le_of_ble_eq_true rfl) S (wr_blanks0 n1 n2 nr (by omega) (by omega)) ?_
        intro x hh σu S f P
        obtain ⟨e1, e2⟩ := P
        rw [e2] at S
        rw [e1]
        clear e1 e2
        replace fr := mi_Fm_tr fr f
        refine mi_s_add rfl rfl ?_
        refine mi_s_top (b := 2) rfl ?_
        refine mi_s_ldc (e := 1000000) rfl rfl rfl (by decide +kernel) ?_
        refine mi_s_mn rfl rfl rfl (Nat.le_of_ble_eq_true rfl) (by unfold mi_R; omega) (by unfold mi_R; omega) ?_
        refine ty_s_cv rfl rfl rfl rfl rfl rfl (mi_cal_v2 (np := 2) (args := [.ref 9, .int (Int32.ofInt (mi_sA σ 15 i)), .int (Int32.ofInt (min 2 1000000))]) (rest := []) rfl rfl rfl rfl rfl (Nat.le_of_ble_eq_true rfl) rfl rfl (Nat.le_of_ble_eq_true rfl) (ty_rcS S (List.mem_of_getElem? (i := 5) rfl))) (Nat.le_of_ble_eq_true rfl) S (ty_setNote (by omega) n2) ?_
        intro hh σ3 S f P
        rw [nr] at P
        subst P
        replace fr := mi_Fm_tr fr f
        refine mi_s_inc (l' := [(2, .int (Int32.ofInt (i + 1))), (5, .int (Int32.ofInt 3)), (6, .int (Int32.ofInt 0)), (4, .int (Int32.ofInt 2)), (3, .int (Int32.ofInt (mi_sA σ 15 i))), (0, .ref 52), (1, .int (Int32.ofInt nd))]) rfl rfl rfl (by decide) rfl ?_
        refine mi_wp_p (pc' := 18) rfl rfl rfl ?_
        refine mi_wp_lw (l := [(2, .int (Int32.ofInt (i + 1))), (0, .ref 52), (1, .int (Int32.ofInt nd))]) (mi_lw_of (show List.Nodup [2, 0, 1] by decide) ⟨rfl, rfl, rfl, trivial⟩) ?_
        refine ih _ (by omega) _ (i + 1) rfl (by omega) (by omega) (ga_L_set E G hi0 hi ?_) _ S fr
        · show _ = wln (T (mi_sA σ 15 i))
          unfold wln at *
          rw [hw] <;> omega
      · have z2 : ty_K' σ (mi_sA σ 15 i) 2 = 0 := (c7 2 (by omega) (by omega)).2 (by rw [ht]; decide)
        have s0 : Sx (ty_K' σ (mi_sA σ 15 i) 0) := kid_T HT n3 (by omega) (by rw [ht]; decide) (by omega)
        obtain ⟨⟨p0, p0b⟩, r0, -⟩ := HT.2 _ s0
        rw [if_neg (by omega)] at m0
        have w0 := wln_0 (T (ty_K' σ (mi_sA σ 15 i) 0))
        have b0 := bki_01 (pos 5 0) (T (ty_K' σ (mi_sA σ 15 i) 0))
        have u0 : wln (T (ty_K' σ (mi_sA σ 15 i) 0)) ≤ 1000000 := by unfold wln; omega
        have s1 : Sx (ty_K' σ (mi_sA σ 15 i) 1) := kid_T HT n3 (by omega) (by rw [ht]; decide) (by omega)
        obtain ⟨⟨p1, p1b⟩, r1, -⟩ := HT.2 _ s1
        rw [if_neg (by omega)] at m1
        have w1 := wln_0 (T (ty_K' σ (mi_sA σ 15 i) 1))
        have b1 := bki_01 (pos 5 1) (T (ty_K' σ (mi_sA σ 15 i) 1))
        have u1 : wln (T (ty_K' σ (mi_sA σ 15 i) 1)) ≤ 1000000 := by unfold wln; omega
        have hw : wl (T (mi_sA σ 15 i)) = 3 + (wl (T (ty_K' σ (mi_sA σ 15 i) 0)) + 2 * bki (pos 5 0) (T (ty_K' σ (mi_sA σ 15 i) 0))) + (wl (T (ty_K' σ (mi_sA σ 15 i) 1)) + 2 * bki (pos 5 1) (T (ty_K' σ (mi_sA σ 15 i) 1))) := by
          rw [c6 (by omega) (by omega), wl_tn, ht]
          rfl
        refine mi_wp_p (pc' := 19) (st' := [.int (Int32.ofInt i)]) rfl rfl rfl ?_
        refine mi_wp_p (pc' := 20) (st' := [.ref 52, .int (Int32.ofInt i)]) rfl rfl rfl ?_
        refine ty_s_gr S rfl rfl rfl (List.mem_of_getElem? (i := 64) rfl) ?_
        refine ty_s_ci rfl rfl rfl rfl rfl rfl (mi_cal_v2 (np := 0) (args := [.ref 9]) (rest := [.int (Int32.ofInt i)]) rfl rfl rfl rfl rfl (Nat.le_of_ble_eq_true rfl) rfl rfl (Nat.le_of_ble_eq_true rfl) (ty_rcS S (List.mem_of_getElem? (i := 5) rfl))) (Nat.le_of_ble_eq_true rfl) S ty_gathered ?_
        intro x hh σu S f P
        obtain ⟨e1, e2⟩ := P
        rw [e2] at S
        rw [e1]
        clear e1 e2
        replace fr := mi_Fm_tr fr f
        refine mi_s_if2 (t := 141) rfl rfl rfl (by unfold mi_R; omega) (by unfold mi_R; omega) (fun hc_ => absurd (show (mi_sF σ 9 10) ≤ i from hc_) (by omega)) (fun _ => ?_)
        refine mi_wp_p (pc' := 30) (st' := [.ref 52]) rfl rfl rfl ?_
        refine ty_s_gr S rfl rfl rfl (List.mem_of_getElem? (i := 64) rfl) ?_
        refine mi_wp_p (pc' := 34) (st' := [.int (Int32.ofInt i), .ref 9]) rfl rfl rfl ?_
        refine ty_s_ci rfl rfl rfl rfl rfl rfl (mi_cal_v2 (np := 1) (args := [.ref 9, .int (Int32.ofInt i)]) (rest := []) rfl rfl rfl rfl rfl (Nat.le_of_ble_eq_true rfl) rfl rfl (Nat.le_of_ble_eq_true rfl) (ty_rcS S (List.mem_of_getElem? (i := 5) rfl))) (Nat.le_of_ble_eq_true rfl) S (ty_gatheredAt hi0 hi (by omega)) ?_
        intro x hh σu S f P
        obtain ⟨e1, e2⟩ := P
        rw [e2] at S
        rw [e1]
        clear e1 e2
        replace fr := mi_Fm_tr fr f
        refine mi_wp_p (pc' := 38) (l' := [(3, .int (Int32.ofInt (mi_sA σ 15 i))), (2, .int (Int32.ofInt i)), (0, .ref 52), (1, .int (Int32.ofInt nd))]) (st' := []) rfl rfl rfl ?_
        refine mi_wp_p (pc' := 39) (st' := [.ref 52]) rfl rfl rfl ?_
        refine mi_wp_p (pc' := 40) (st' := [.ref 52, .ref 52]) rfl rfl rfl ?_
        refine ty_s_gr S rfl rfl rfl (List.mem_of_getElem? (i := 64) rfl) ?_
        refine mi_wp_p (pc' := 44) (st' := [.int (Int32.ofInt (mi_sA σ 15 i)), .ref 9, .ref 52]) rfl rfl rfl ?_
        refine ty_s_ci rfl rfl rfl rfl rfl rfl (mi_cal_v2 (np := 1) (args := [.ref 9, .int (Int32.ofInt (mi_sA σ 15 i))]) (rest := [.ref 52]) rfl rfl rfl rfl rfl (Nat.le_of_ble_eq_true rfl) rfl rfl (Nat.le_of_ble_eq_true rfl) (ty_rcS S (List.mem_of_getElem? (i := 5) rfl))) (Nat.le_of_ble_eq_true rfl) S (ty_tagOf (by omega) n2) ?_
        intro x hh σu S f P
        obtain ⟨g1, g2⟩ := P
        rw [g2] at S
        rw [g1, nr, ht]
        clear g1 g2
        replace fr := mi_Fm_tr fr f
        refine ty_s_ci rfl rfl rfl rfl rfl rfl (mi_cal_v2 (np := 1) (args := [.ref 52, .int (Int32.ofInt 5)]) (rest := []) rfl rfl rfl rfl rfl (Nat.le_of_ble_eq_true rfl) rfl rfl (Nat.le_of_ble_eq_true rfl) (ty_rcS S (List.mem_of_getElem? (i := 27) rfl))) (Nat.le_of_ble_eq_true rfl) S wr_own5 ?_
        intro x hh σu S f P
        obtain ⟨e1, e2⟩ := P
        rw [e2] at S
        rw [e1]
        clear e1 e2
        replace fr := mi_Fm_tr fr f
        refine mi_wp_p (pc' := 52) (l' := [(4, .int (Int32.ofInt 3)), (3, .int (Int32.ofInt (mi_sA σ 15 i))), (2, .int (Int32.ofInt i)), (0, .ref 52), (1, .int (Int32.ofInt nd))]) (st' := []) rfl rfl rfl ?_
        refine mi_wp_p (pc' := 53) (st' := [.int (Int32.ofInt 0)]) rfl rfl rfl ?_
        refine mi_wp_p (pc' := 55) (l' := [(5, .int (Int32.ofInt 0)), (4, .int (Int32.ofInt 3)), (3, .int (Int32.ofInt (mi_sA σ 15 i))), (2, .int (Int32.ofInt i)), (0, .ref 52), (1, .int (Int32.ofInt nd))]) (st' := []) rfl rfl rfl ?_
        refine mi_wp_p (pc' := 57) (st' := [.int (Int32.ofInt 0)]) rfl rfl rfl ?_
        refine mi_wp_p (pc' := 58) (st' := [.int (Int32.ofInt 3), .int (Int32.ofInt 0)]) rfl rfl rfl ?_
        refine mi_s_if2 (t := 114) rfl rfl rfl (by unfold mi_R; omega) (by unfold mi_R; omega) (fun hc_ => absurd (show 3 ≤ (0 : Int) from hc_) (by omega)) (fun _ => ?_)
        refine mi_wp_p (pc' := 62) (st' := [.ref 52]) rfl rfl rfl ?_
        refine ty_s_gr S rfl rfl rfl (List.mem_of_getElem? (i := 64) rfl) ?_
        refine mi_wp_p (pc' := 66) (st' := [.int (Int32.ofInt (mi_sA σ 15 i)), .ref 9]) rfl rfl rfl ?_
        refine mi_wp_p (pc' := 68) (st' := [.int (Int32.ofInt 0), .int (Int32.ofInt (mi_sA σ 15 i)), .ref 9]) rfl rfl rfl ?_
        refine ty_s_ci rfl rfl rfl rfl rfl rfl (mi_cal_v2 (np := 2) (args := [.ref 9, .int (Int32.ofInt (mi_sA σ 15 i)), .int (Int32.ofInt 0)]) (rest := []) rfl rfl rfl rfl rfl (Nat.le_of_ble_eq_true rfl) rfl rfl (Nat.le_of_ble_eq_true rfl) (ty_rcS S (List.mem_of_getElem? (i := 5) rfl))) (Nat.le_of_ble_eq_true rfl) S (ty_kidOf n1 n2 (by omega) (by rw [nr]; exact n4 0 (by omega) (by omega))) ?_
        intro x hh σu S f P
        obtain ⟨g1, g2⟩ := P
        rw [g2] at S
        rw [nr] at g1
        replace g1 : x = ty_K' σ (mi_sA σ 15 i) 0 := g1
        rw [g1]
        clear g1 g2
        replace fr := mi_Fm_tr fr f
        refine mi_wp_p (pc' := 73) (l' := [(6, .int (Int32.ofInt (ty_K' σ (mi_sA σ 15 i) 0))), (5, .int (Int32.ofInt 0)), (4, .int (Int32.ofInt 3)), (3, .int (Int32.ofInt (mi_sA σ 15 i))), (2, .int (Int32.ofInt i)), (0, .ref 52), (1, .int (Int32.ofInt nd))]) (st' := []) rfl rfl rfl ?_
        refine mi_wp_p (pc' := 75) (st' := [.int (Int32.ofInt (ty_K' σ (mi_sA σ 15 i) 0))]) rfl rfl rfl ?_
        refine mi_s_if1 (t := 108) rfl rfl rfl (by unfold mi_R; omega) (fun hc_ => absurd (show (ty_K' σ (mi_sA σ 15 i) 0) = 0 from hc_) (by omega)) (fun _ => ?_)
        refine mi_wp_p (pc' := 80) (st' := [.int (Int32.ofInt 3)]) rfl rfl rfl ?_
        refine mi_wp_p (pc' := 81) (st' := [.ref 52, .int (Int32.ofInt 3)]) rfl rfl rfl ?_
        refine ty_s_gr S rfl rfl rfl (List.mem_of_getElem? (i := 64) rfl) ?_
        refine mi_wp_p (pc' := 86) (st' := [.int (Int32.ofInt (ty_K' σ (mi_sA σ 15 i) 0)), .ref 9, .int (Int32.ofInt 3)]) rfl rfl rfl ?_
        refine ty_s_ci rfl rfl rfl rfl rfl rfl (mi_cal_v2 (np := 1) (args := [.ref 9, .int (Int32.ofInt (ty_K' σ (mi_sA σ 15 i) 0))]) (rest := [.int (Int32.ofInt 3)]) rfl rfl rfl rfl rfl (Nat.le_of_ble_eq_true rfl) rfl rfl (Nat.le_of_ble_eq_true rfl) (ty_rcS S (List.mem_of_getElem? (i := 5) rfl))) (Nat.le_of_ble_eq_true rfl) S (ty_noteOf (by omega) p0b) ?_
        intro x hh σu S f P
        obtain ⟨g1, g2⟩ := P
        rw [g2] at S
        rw [r0, m0] at g1
        rw [g1]
        clear g1 g2
        replace fr := mi_Fm_tr fr f
        refine mi_wp_p (pc' := 90) (st' := [.ref 52, .int (Int32.ofInt (wln (T (ty_K' σ (mi_sA σ 15 i) 0)))), .int (Int32.ofInt 3)]) rfl rfl rfl ?_
        refine mi_wp_p (pc' := 91) (st' := [.int (Int32.ofInt (mi_sA σ 15 i)), .ref 52, .int (Int32.ofInt (wln (T (ty_K' σ (mi_sA σ 15 i) 0)))), .int (Int32.ofInt 3)]) rfl rfl rfl ?_
        refine mi_wp_p (pc' := 93) (st' := [.int (Int32.ofInt 0), .int (Int32.ofInt (mi_sA σ 15 i)), .ref 52, .int (Int32.ofInt (wln (T (ty_K' σ (mi_sA σ 15 i) 0)))), .int (Int32.ofInt 3)]) rfl rfl rfl ?_
        refine ty_s_ci rfl rfl rfl rfl rfl rfl (mi_cal_v2 (np := 2) (args := [.ref 52, .int (Int32.ofInt (mi_sA σ 15 i)), .int (Int32.ofInt 0)]) (rest := [.int (Int32.ofInt (wln (T (ty_K' σ (mi_sA σ 15 i) 0)))), .int (Int32.ofInt 3)]) rfl rfl rfl rfl rfl (Nat.le_of_ble_eq_true rfl) rfl rfl (Nat.le_of_ble_eq_true rfl) (ty_rcS S (List.mem_of_getElem? (i := 27) rfl))) (Nat.le_of_ble_eq_true rfl) S (iw_T HT ZT GT n3 (by omega)) ?_
        intro x hh σu S f P
        obtain ⟨g1, g2⟩ := P
        rw [g2] at S
        rw [ht] at g1
        replace g1 : x = bki (pos 5 0) (T (ty_K' σ (mi_sA σ 15 i) 0)) := g1
        rw [g1]
        clear g1 g2
        replace fr := mi_Fm_tr fr f
        refine mi_s_if1 (t := 103) rfl rfl rfl (by unfold mi_R; omega) ?_ ?_
        · intro (c1 : (bki (pos 5 0) (T (ty_K' σ (mi_sA σ 15 i) 0))) = 0)
          refine mi_wp_p (pc' := 104) (st' := [.int (Int32.ofInt 0), .int (Int32.ofInt (wln (T (ty_K' σ (mi_sA σ 15 i) 0)))), .int (Int32.ofInt 3)]) rfl rfl rfl ?_
          refine mi_s_add rfl rfl ?_
          refine mi_s_add rfl rfl ?_
          refine mi_wp_p (pc' := 108) (l' := [(4, .int (Int32.ofInt (3 + ((wln (T (ty_K' σ (mi_sA σ 15 i) 0))) + 0)))), (6, .int (Int32.ofInt (ty_K' σ (mi_sA σ 15 i) 0))), (5, .int (Int32.ofInt 0)), (3, .int (Int32.ofInt (mi_sA σ 15 i))), (2, .int (Int32.ofInt i)), (0, .ref 52), (1, .int (Int32.ofInt nd))]) (st' := []) rfl rfl rfl ?_
          refine mi_s_inc (l' := [(5, .int (Int32.ofInt 1)), (4, .int (Int32.ofInt (3 + ((wln (T (ty_K' σ (mi_sA σ 15 i) 0))) + 0)))), (6, .int (Int32.ofInt (ty_K' σ (mi_sA σ 15 i) 0))), (3, .int (Int32.ofInt (mi_sA σ 15 i))), (2, .int (Int32.ofInt i)), (0, .ref 52), (1, .int (Int32.ofInt nd))]) rfl rfl rfl (by decide) rfl ?_
          refine mi_wp_p (pc' := 55) rfl rfl rfl ?_
          refine mi_wp_p (pc' := 57) (st' := [.int (Int32.ofInt 1)]) rfl rfl rfl ?_
          refine mi_wp_p (pc' := 58) (st' := [.int (Int32.ofInt 3), .int (Int32.ofInt 1)]) rfl rfl rfl ?_
          refine mi_s_if2 (t := 114) rfl rfl rfl (by unfold mi_R; omega) (by unfold mi_R; omega) (fun hc_ => absurd (show 3 ≤ (1 : Int) from hc_) (by omega)) (fun _ => ?_)
          refine mi_wp_p (pc' := 62) (st' := [.ref 52]) rfl rfl rfl ?_
          refine ty_s_gr S rfl rfl rfl (List.mem_of_getElem? (i := 64) rfl) ?_
          refine mi_wp_p (pc' := 66) (st' := [.int (Int32.ofInt (mi_sA σ 15 i)), .ref 9]) rfl rfl rfl ?_
          refine mi_wp_p (pc' := 68) (st' := [.int (Int32.ofInt 1), .int (Int32.ofInt (mi_sA σ 15 i)), .ref 9]) rfl rfl rfl ?_
          refine ty_s_ci rfl rfl rfl rfl rfl rfl (mi_cal_v2 (np := 2) (args := [.ref 9, .int (Int32.ofInt (mi_sA σ 15 i)), .int (Int32.ofInt 1)]) (rest := []) rfl rfl rfl rfl rfl (Nat.le_of_ble_eq_true rfl) rfl rfl (Nat.le_of_ble_eq_true rfl) (ty_rcS S (List.mem_of_getElem? (i := 5) rfl))) (Nat.le_of_ble_eq_true rfl) S (ty_kidOf n1 n2 (by omega) (by rw [nr]; exact n4 1 (by omega) (by omega))) ?_
          intro x hh σu S f P
          obtain ⟨g1, g2⟩ := P
          rw [g2] at S
          rw [nr] at g1
          replace g1 : x = ty_K' σ (mi_sA σ 15 i) 1 := g1
          rw [g1]
          clear g1 g2
          replace fr := mi_Fm_tr fr f
          refine mi_wp_p (pc' := 73) (l' := [(6, .int (Int32.ofInt (ty_K' σ (mi_sA σ 15 i) 1))), (5, .int (Int32.ofInt 1)), (4, .int (Int32.ofInt (3 + ((wln (T (ty_K' σ (mi_sA σ 15 i) 0))) + 0)))), (3, .int (Int32.ofInt (mi_sA σ 15 i))), (2, .int (Int32.ofInt i)), (0, .ref 52), (1, .int (Int32.ofInt nd))]) (st' := []) rfl rfl rfl ?_
          refine mi_wp_p (pc' := 75) (st' := [.int (Int32.ofInt (ty_K' σ (mi_sA σ 15 i) 1))]) rfl rfl rfl ?_
          refine mi_s_if1 (t := 108) rfl rfl rfl (by unfold mi_R; omega) (fun hc_ => absurd (show (ty_K' σ (mi_sA σ 15 i) 1) = 0 from hc_) (by omega)) (fun _ => ?_)
          refine mi_wp_p (pc' := 80) (st' := [.int (Int32.ofInt (3 + ((wln (T (ty_K' σ (mi_sA σ 15 i) 0))) + 0)))]) rfl rfl rfl ?_
          refine mi_wp_p (pc' := 81) (st' := [.ref 52, .int (Int32.ofInt (3 + ((wln (T (ty_K' σ (mi_sA σ 15 i) 0))) + 0)))]) rfl rfl rfl ?_
          refine ty_s_gr S rfl rfl rfl (List.mem_of_getElem? (i := 64) rfl) ?_
          refine mi_wp_p (pc' := 86) (st' := [.int (Int32.ofInt (ty_K' σ (mi_sA σ 15 i) 1)), .ref 9, .int (Int32.ofInt (3 + ((wln (T (ty_K' σ (mi_sA σ 15 i) 0))) + 0)))]) rfl rfl rfl ?_
          refine ty_s_ci rfl rfl rfl rfl rfl rfl (mi_cal_v2 (np := 1) (args := [.ref 9, .int (Int32.ofInt (ty_K' σ (mi_sA σ 15 i) 1))]) (rest := [.int (Int32.ofInt (3 + ((wln (T (ty_K' σ (mi_sA σ 15 i) 0))) + 0)))]) rfl rfl rfl rfl rfl (Nat.le_of_ble_eq_true rfl) rfl rfl (Nat.le_of_ble_eq_true rfl) (ty_rcS S (List.mem_of_getElem? (i := 5) rfl))) (Nat.le_of_ble_eq_true rfl) S (ty_noteOf (by omega) p1b) ?_
          intro x hh σu S f P
          obtain ⟨g1, g2⟩ := P
          rw [g2] at S
          rw [r1, m1] at g1
          rw [g1]
          clear g1 g2
          replace fr := mi_Fm_tr fr f
          refine mi_wp_p (pc' := 90) (st' := [.ref 52, .int (Int32.ofInt (wln (T (ty_K' σ (mi_sA σ 15 i) 1)))), .int (Int32.ofInt (3 + ((wln (T (ty_K' σ (mi_sA σ 15 i) 0))) + 0)))]) rfl rfl rfl ?_
          refine mi_wp_p (pc' := 91) (st' := [.int (Int32.ofInt (mi_sA σ 15 i)), .ref 52, .int (Int32.ofInt (wln (T (ty_K' σ (mi_sA σ 15 i) 1)))), .int (Int32.ofInt (3 + ((wln (T (ty_K' σ (mi_sA σ 15 i) 0))) + 0)))]) rfl rfl rfl ?_
          refine mi_wp_p (pc' := 93) (st' := [.int (Int32.ofInt 1), .int (Int32.ofInt (mi_sA σ 15 i)), .ref 52, .int (Int32.ofInt (wln (T (ty_K' σ (mi_sA σ 15 i) 1)))), .int (Int32.ofInt (3 + ((wln (T (ty_K' σ (mi_sA σ 15 i) 0))) + 0)))]) rfl rfl rfl ?_
          refine ty_s_ci rfl rfl rfl rfl rfl rfl (mi_cal_v2 (np := 2) (args := [.ref 52, .int (Int32.ofInt (mi_sA σ 15 i)), .int (Int32.ofInt 1)]) (rest := [.int (Int32.ofInt (wln (T (ty_K' σ (mi_sA σ 15 i) 1)))), .int (Int32.ofInt (3 + ((wln (T (ty_K' σ (mi_sA σ 15 i) 0))) + 0)))]) rfl rfl rfl rfl rfl (Nat.le_of_ble_eq_true rfl) rfl rfl (Nat.le_of_ble_eq_true rfl) (ty_rcS S (List.mem_of_getElem? (i := 27) rfl))) (Nat.le_of_ble_eq_true rfl) S (iw_T HT ZT GT n3 (by omega)) ?_
          intro x hh σu S f P
          obtain ⟨g1, g2⟩ := P
          rw [g2] at S
          rw [ht] at g1
          replace g1 : x = bki (pos 5 1) (T (ty_K' σ (mi_sA σ 15 i) 1)) := g1
          rw [g1]
          clear g1 g2
          replace fr := mi_Fm_tr fr f
          refine mi_s_if1 (t := 103) rfl rfl rfl (by unfold mi_R; omega) ?_ ?_
          · intro (c2 : (bki (pos 5 1) (T (ty_K' σ (mi_sA σ 15 i) 1))) = 0)
            refine mi_wp_p (pc' := 104) (st' := [.int (Int32.ofInt 0), .int (Int32.ofInt (wln (T (ty_K' σ (mi_sA σ 15 i) 1)))), .int (Int32.ofInt (3 + ((wln (T (ty_K' σ (mi_sA σ 15 i) 0))) + 0)))]) rfl rfl rfl ?_
            refine mi_s_add rfl rfl ?_
            refine mi_s_add rfl rfl ?_
            refine mi_wp_p (pc' := 108) (l' := [(4, .int (Int32.ofInt ((3 + ((wln (T (ty_K' σ (mi_sA σ 15 i) 0))) + 0)) + ((wln (T (ty_K' σ (mi_sA σ 15 i) 1))) + 0)))), (6, .int (Int32.ofInt (ty_K' σ (mi_sA σ 15 i) 1))), (5, .int (Int32.ofInt 1)), (3, .int (Int32.ofInt (mi_sA σ 15 i))), (2, .int (Int32.ofInt i)), (0, .ref 52), (1, .int (Int32.ofInt nd))]) (st' := []) rfl rfl rfl ?_
            refine mi_s_inc (l' := [(5, .int (Int32.ofInt 2)), (4, .int (Int32.ofInt ((3 + ((wln (T (ty_K' σ (mi_sA σ 15 i) 0))) + 0)) + ((wln (T (ty_K' σ (mi_sA σ 15 i) 1))) + 0)))), (6, .int (Int32.ofInt (ty_K' σ (mi_sA σ 15 i) 1))), (3, .int (Int32.ofInt (mi_sA σ 15 i))), (2, .int (Int32.ofInt i)), (0, .ref 52), (1, .int (Int32.ofInt nd))]) rfl rfl rfl (by decide) rfl ?_
            refine mi_wp_p (pc' := 55) rfl rfl rfl ?_
            refine mi_wp_p (pc' := 57) (st' := [.int (Int32.ofInt 2)]) rfl rfl rfl ?_
            refine mi_wp_p (pc' := 58) (st' := [.int (Int32.ofInt 3), .int (Int32.ofInt 2)]) rfl rfl rfl ?_
            refine mi_s_if2 (t := 114) rfl rfl rfl (by unfold mi_R; omega) (by unfold mi_R; omega) (fun hc_ => absurd (show 3 ≤ (2 : Int) from hc_) (by omega)) (fun _ => ?_)
            refine mi_wp_p (pc' := 62) (st' := [.ref 52]) rfl rfl rfl ?_
            refine ty_s_gr S rfl rfl rfl (List.mem_of_getElem? (i := 64) rfl) ?_
            refine mi_wp_p (pc' := 66) (st' := [.int (Int32.ofInt (mi_sA σ 15 i)), .ref 9]) rfl rfl rfl ?_
            refine mi_wp_p (pc' := 68) (st' := [.int (Int32.ofInt 2), .int (Int32.ofInt (mi_sA σ 15 i)), .ref 9]) rfl rfl rfl ?_
            refine ty_s_ci rfl rfl rfl rfl rfl rfl (mi_cal_v2 (np := 2) (args := [.ref 9, .int (Int32.ofInt (mi_sA σ 15 i)), .int (Int32.ofInt 2)]) (rest := []) rfl rfl rfl rfl rfl (Nat.le_of_ble_eq_true rfl) rfl rfl (Nat.le_of_ble_eq_true rfl) (ty_rcS S (List.mem_of_getElem? (i := 5) rfl))) (Nat.le_of_ble_eq_true rfl) S (ty_kidOf n1 n2 (by omega) (by rw [nr]; exact n4 2 (by omega) (by omega))) ?_
            intro x hh σu S f P
            obtain ⟨g1, g2⟩ := P
            rw [g2] at S
            rw [nr] at g1
            replace g1 : x = ty_K' σ (mi_sA σ 15 i) 2 := g1
            rw [z2] at g1
            rw [g1]
            clear g1 g2
            replace fr := mi_Fm_tr fr f
            refine mi_wp_p (pc' := 73) (l' := [(6, .int (Int32.ofInt 0)), (5, .int (Int32.ofInt 2)), (4, .int (Int32.ofInt ((3 + ((wln (T (ty_K' σ (mi_sA σ 15 i) 0))) + 0)) + ((wln (T (ty_K' σ (mi_sA σ 15 i) 1))) + 0)))), (3, .int (Int32.ofInt (mi_sA σ 15 i))), (2, .int (Int32.ofInt i)), (0, .ref 52), (1, .int (Int32.ofInt nd))]) (st' := []) rfl rfl rfl ?_
            refine mi_wp_p (pc' := 75) (st' := [.int (Int32.ofInt 0)]) rfl rfl rfl ?_
            refine mi_s_if1 (t := 108) rfl rfl rfl (by unfold mi_R; omega) (fun _ => ?_) (fun hc_ => absurd (show (0 : Int) = 0 by omega) hc_)
            refine mi_s_inc (l' := [(5, .int (Int32.ofInt 3)), (6, .int (Int32.ofInt 0)), (4, .int (Int32.ofInt ((3 + ((wln (T (ty_K' σ (mi_sA σ 15 i) 0))) + 0)) + ((wln (T (ty_K' σ (mi_sA σ 15 i) 1))) + 0)))), (3, .int (Int32.ofInt (mi_sA σ 15 i))), (2, .int (Int32.ofInt i)), (0, .ref 52), (1, .int (Int32.ofInt nd))]) rfl rfl rfl (by decide) rfl ?_
            refine mi_wp_p (pc' := 55) rfl rfl rfl ?_
            refine mi_wp_p (pc' := 57) (st' := [.int (Int32.ofInt 3)]) rfl rfl rfl ?_
            refine mi_wp_p (pc' := 58) (st' := [.int (Int32.ofInt 3), .int (Int32.ofInt 3)]) rfl rfl rfl ?_
            refine mi_s_if2 (t := 114) rfl rfl rfl (by unfold mi_R; omega) (by unfold mi_R; omega) (fun _ => ?_) (fun hc_ => absurd (show 3 ≤ (3 : Int) by omega) hc_)
            refine mi_wp_p (pc' := 115) (st' := [.ref 52]) rfl rfl rfl ?_
            refine ty_s_gr S rfl rfl rfl (List.mem_of_getElem? (i := 64) rfl) ?_
            refine mi_wp_p (pc' := 119) (st' := [.int (Int32.ofInt (mi_sA σ 15 i)), .ref 9]) rfl rfl rfl ?_
            refine mi_wp_p (pc' := 121) (st' := [.int (Int32.ofInt ((3 + ((wln (T (ty_K' σ (mi_sA σ 15 i) 0))) + 0)) + ((wln (T (ty_K' σ (mi_sA σ 15 i) 1))) + 0))), .int (Int32.ofInt (mi_sA σ 15 i)), .ref 9]) rfl rfl rfl ?_
            refine mi_wp_p (pc' := 122) (st' := [.ref 52, .int (Int32.ofInt ((3 + ((wln (T (ty_K' σ (mi_sA σ 15 i) 0))) + 0)) + ((wln (T (ty_K' σ (mi_sA σ 15 i) 1))) + 0))), .int (Int32.ofInt (mi_sA σ 15 i)), .ref 9]) rfl rfl rfl ?_
            refine mi_wp_p (pc' := 123) (st' := [.int (Int32.ofInt (mi_sA σ 15 i)), .ref 52, .int (Int32.ofInt ((3 + ((wln (T (ty_K' σ (mi_sA σ 15 i) 0))) + 0)) + ((wln (T (ty_K' σ (mi_sA σ 15 i) 1))) + 0))), .int (Int32.ofInt (mi_sA σ 15 i)), .ref 9]) rfl rfl rfl ?_
            refine ty_s_ci rfl rfl rfl rfl rfl rfl (mi_cal_v2 (np := 1) (args := [.ref 52, .int (Int32.ofInt (mi_sA σ 15 i))]) (rest := [.int (Int32.ofInt ((3 + ((wln (T (ty_K' σ (mi_sA σ 15 i) 0))) + 0)) + ((wln (T (ty_K' σ (mi_sA σ 15 i) 1))) + 0))), .int (Int32.ofInt (mi_sA σ 15 i)), .ref 9]) rfl rfl rfl rfl rfl (Nat.le_of_ble_eq_true rfl) rfl rfl (Nat.le_of_ble_eq_true rfl) (ty_rcS S (List.mem_of_getElem? (i := 27) rfl))) (Nat.le_of_ble_eq_true rfl) S (wr_blanks0 n1 n2 nr (by omega) (by omega)) ?_
            intro x hh σu S f P
            obtain ⟨e1, e2⟩ := P
            rw [e2] at S
            rw [e1]
            clear e1 e2
            replace fr := mi_Fm_tr fr f
            refine mi_s_add rfl rfl ?_
            refine mi_s_ldc (e := 1000000) rfl rfl rfl (by decide +kernel) ?_
            refine mi_s_mn rfl rfl rfl (Nat.le_of_ble_eq_true rfl) (by unfold mi_R; omega) (by unfold mi_R; omega) ?_
            refine ty_s_cv rfl rfl rfl rfl rfl rfl (mi_cal_v2 (np := 2) (args := [.ref 9, .int (Int32.ofInt (mi_sA σ 15 i)), .int (Int32.ofInt (min (((3 + ((wln (T (ty_K' σ (mi_sA σ 15 i) 0))) + 0)) + ((wln (T (ty_K' σ (mi_sA σ 15 i) 1))) + 0)) + 0) 1000000))]) (rest := []) rfl rfl rfl rfl rfl (Nat.le_of_ble_eq_true rfl) rfl rfl (Nat.le_of_ble_eq_true rfl) (ty_rcS S (List.mem_of_getElem? (i := 5) rfl))) (Nat.le_of_ble_eq_true rfl) S (ty_setNote (by omega) n2) ?_
            intro hh σ3 S f P
            rw [nr] at P
            subst P
            replace fr := mi_Fm_tr fr f
            refine mi_s_inc (l' := [(2, .int (Int32.ofInt (i + 1))), (5, .int (Int32.ofInt 3)), (6, .int (Int32.ofInt 0)), (4, .int (Int32.ofInt ((3 + ((wln (T (ty_K' σ (mi_sA σ 15 i) 0))) + 0)) + ((wln (T (ty_K' σ (mi_sA σ 15 i) 1))) + 0)))), (3, .int (Int32.ofInt (mi_sA σ 15 i))), (0, .ref 52), (1, .int (Int32.ofInt nd))]) rfl rfl rfl (by decide) rfl ?_
            refine mi_wp_p (pc' := 18) rfl rfl rfl ?_
            refine mi_wp_lw (l := [(2, .int (Int32.ofInt (i + 1))), (0, .ref 52), (1, .int (Int32.ofInt nd))]) (mi_lw_of (show List.Nodup [2, 0, 1] by decide) ⟨rfl, rfl, rfl, trivial⟩) ?_
            refine ih _ (by omega) _ (i + 1) rfl (by omega) (by omega) (ga_L_set E G hi0 hi ?_) _ S fr
            · show _ = wln (T (mi_sA σ 15 i))
              unfold wln at *
              rw [hw] <;> omega
          · intro (c2 : ¬ ((bki (pos 5 1) (T (ty_K' σ (mi_sA σ 15 i) 1))) = 0))
            refine mi_wp_p (pc' := 100) (st' := [.int (Int32.ofInt 2), .int (Int32.ofInt (wln (T (ty_K' σ (mi_sA σ 15 i) 1)))), .int (Int32.ofInt (3 + ((wln (T (ty_K' σ (mi_sA σ 15 i) 0))) + 0)))]) rfl rfl rfl ?_
            refine mi_wp_p (pc' := 104) rfl rfl rfl ?_
            refine mi_s_add rfl rfl ?_
            refine mi_s_add rfl rfl ?_
            refine mi_wp_p (pc' := 108) (l' := [(4, .int (Int32.ofInt ((3 + ((wln (T (ty_K' σ (mi_sA σ 15 i) 0))) + 0)) + ((wln (T (ty_K' σ (mi_sA σ 15 i) 1))) + 2)))), (6, .int (Int32.ofInt (ty_K' σ (mi_sA σ 15 i) 1))), (5, .int (Int32.ofInt 1)), (3, .int (Int32.ofInt (mi_sA σ 15 i))), (2, .int (Int32.ofInt i)), (0, .ref 52), (1, .int (Int32.ofInt nd))]) (st' := []) rfl rfl rfl ?_
            refine mi_s_inc (l' := [(5, .int (Int32.ofInt 2)), (4, .int (Int32.ofInt ((3 + ((wln (T (ty_K' σ (mi_sA σ 15 i) 0))) + 0)) + ((wln (T (ty_K' σ (mi_sA σ 15 i) 1))) + 2)))), (6, .int (Int32.ofInt (ty_K' σ (mi_sA σ 15 i) 1))), (3, .int (Int32.ofInt (mi_sA σ 15 i))), (2, .int (Int32.ofInt i)), (0, .ref 52), (1, .int (Int32.ofInt nd))]) rfl rfl rfl (by decide) rfl ?_
            refine mi_wp_p (pc' := 55) rfl rfl rfl ?_
            refine mi_wp_p (pc' := 57) (st' := [.int (Int32.ofInt 2)]) rfl rfl rfl ?_
            refine mi_wp_p (pc' := 58) (st' := [.int (Int32.ofInt 3), .int (Int32.ofInt 2)]) rfl rfl rfl ?_
            refine mi_s_if2 (t := 114) rfl rfl rfl (by unfold mi_R; omega) (by unfold mi_R; omega) (fun hc_ => absurd (show 3 ≤ (2 : Int) from hc_) (by omega)) (fun _ => ?_)
            refine mi_wp_p (pc' := 62) (st' := [.ref 52]) rfl rfl rfl ?_
            refine ty_s_gr S rfl rfl rfl (List.mem_of_getElem? (i := 64) rfl) ?_
            refine mi_wp_p (pc' := 66) (st' := [.int (Int32.ofInt (mi_sA σ 15 i)), .ref 9]) rfl rfl rfl ?_
            refine mi_wp_p (pc' := 68) (st' := [.int (Int32.ofInt 2), .int (Int32.ofInt (mi_sA σ 15 i)), .ref 9]) rfl rfl rfl ?_
            refine ty_s_ci rfl rfl rfl rfl rfl rfl (mi_cal_v2 (np := 2) (args := [.ref 9, .int (Int32.ofInt (mi_sA σ 15 i)), .int (Int32.ofInt 2)]) (rest := []) rfl rfl rfl rfl rfl (Nat.le_of_ble_eq_true rfl) rfl rfl (Nat.le_of_ble_eq_true rfl) (ty_rcS S (List.mem_of_getElem? (i := 5) rfl))) (Nat.le_of_ble_eq_true rfl) S (ty_kidOf n1 n2 (by omega) (by rw [nr]; exact n4 2 (by omega) (by omega))) ?_
            intro x hh σu S f P
            obtain ⟨g1, g2⟩ := P
            rw [g2] at S
            rw [nr] at g1
            replace g1 : x = ty_K' σ (mi_sA σ 15 i) 2 := g1
            rw [z2] at g1
            rw [g1]
            clear g1 g2
            replace fr := mi_Fm_tr fr f
            refine mi_wp_p (pc' := 73) (l' := [(6, .int (Int32.ofInt 0)), (5, .int (Int32.ofInt 2)), (4, .int (Int32.ofInt ((3 + ((wln (T (ty_K' σ (mi_sA σ 15 i) 0))) + 0)) + ((wln (T (ty_K' σ (mi_sA σ 15 i) 1))) + 2)))), (3, .int (Int32.ofInt (mi_sA σ 15 i))), (2, .int (Int32.ofInt i)), (0, .ref 52), (1, .int (Int32.ofInt nd))]) (st' := []) rfl rfl rfl ?_
            refine mi_wp_p (pc' := 75) (st' := [.int (Int32.ofInt 0)]) rfl rfl rfl ?_
            refine mi_s_if1 (t := 108) rfl rfl rfl (by unfold mi_R; omega) (fun _ => ?_) (fun hc_ => absurd (show (0 : Int) = 0 by omega) hc_)
            refine mi_s_inc (l' := [(5, .int (Int32.ofInt 3)), (6, .int (Int32.ofInt 0)), (4, .int (Int32.ofInt ((3 + ((wln (T (ty_K' σ (mi_sA σ 15 i) 0))) + 0)) + ((wln (T (ty_K' σ (mi_sA σ 15 i) 1))) + 2)))), (3, .int (Int32.ofInt (mi_sA σ 15 i))), (2, .int (Int32.ofInt i)), (0, .ref 52), (1, .int (Int32.ofInt nd))]) rfl rfl rfl (by decide) rfl ?_
            refine mi_wp_p (pc' := 55) rfl rfl rfl ?_
            refine mi_wp_p (pc' := 57) (st' := [.int (Int32.ofInt 3)]) rfl rfl rfl ?_
            refine mi_wp_p (pc' := 58) (st' := [.int (Int32.ofInt 3), .int (Int32.ofInt 3)]) rfl rfl rfl ?_
            refine mi_s_if2 (t := 114) rfl rfl rfl (by unfold mi_R; omega) (by unfold mi_R; omega) (fun _ => ?_) (fun hc_ => absurd (show 3 ≤ (3 : Int) by omega) hc_)
            refine mi_wp_p (pc' := 115) (st' := [.ref 52]) rfl rfl rfl ?_
            refine ty_s_gr S rfl rfl rfl (List.mem_of_getElem? (i := 64) rfl) ?_
            refine mi_wp_p (pc' := 119) (st' := [.int (Int32.ofInt (mi_sA σ 15 i)), .ref 9]) rfl rfl rfl ?_
            refine mi_wp_p (pc' := 121) (st' := [.int (Int32.ofInt ((3 + ((wln (T (ty_K' σ (mi_sA σ 15 i) 0))) + 0)) + ((wln (T (ty_K' σ (mi_sA σ 15 i) 1))) + 2))), .int (Int32.ofInt (mi_sA σ 15 i)), .ref 9]) rfl rfl rfl ?_
            refine mi_wp_p (pc' := 122) (st' := [.ref 52, .int (Int32.ofInt ((3 + ((wln (T (ty_K' σ (mi_sA σ 15 i) 0))) + 0)) + ((wln (T (ty_K' σ (mi_sA σ 15 i) 1))) + 2))), .int (Int32.ofInt (mi_sA σ 15 i)), .ref 9]) rfl rfl rfl ?_
            refine mi_wp_p (pc' := 123) (st' := [.int (Int32.ofInt (mi_sA σ 15 i)), .ref 52, .int (Int32.ofInt ((3 + ((wln (T (ty_K' σ (mi_sA σ 15 i) 0))) + 0)) + ((wln (T (ty_K' σ (mi_sA σ 15 i) 1))) + 2))), .int (Int32.ofInt (mi_sA σ 15 i)), .ref 9]) rfl rfl rfl ?_
            refine ty_s_ci rfl rfl rfl rfl rfl rfl (mi_cal_v2 (np := 1) (args := [.ref 52, .int (Int32.ofInt (mi_sA σ 15 i))]) (rest := [.int (Int32.ofInt ((3 + ((wln (T (ty_K' σ (mi_sA σ 15 i) 0))) + 0)) + ((wln (T (ty_K' σ (mi_sA σ 15 i) 1))) + 2))), .int (Int32.ofInt (mi_sA σ 15 i)), .ref 9]) rfl rfl rfl rfl rfl (Nat.le_of_ble_eq_true rfl) rfl rfl (Nat.le_of_ble_eq_true rfl) (ty_rcS S (List.mem_of_getElem? (i := 27) rfl))) (Nat.le_of_ble_eq_true rfl) S (wr_blanks0 n1 n2 nr (by omega) (by omega)) ?_
            intro x hh σu S f P
            obtain ⟨e1, e2⟩ := P
            rw [e2] at S
            rw [e1]
            clear e1 e2
            replace fr := mi_Fm_tr fr f
            refine mi_s_add rfl rfl ?_
            refine mi_s_ldc (e := 1000000) rfl rfl rfl (by decide +kernel) ?_
            refine mi_s_mn rfl rfl rfl (Nat.le_of_ble_eq_true rfl) (by unfold mi_R; omega) (by unfold mi_R; omega) ?_
            refine ty_s_cv rfl rfl rfl rfl rfl rfl (mi_cal_v2 (np := 2) (args := [.ref 9, .int (Int32.ofInt (mi_sA σ 15 i)), .int (Int32.ofInt (min (((3 + ((wln (T (ty_K' σ (mi_sA σ 15 i) 0))) + 0)) + ((wln (T (ty_K' σ (mi_sA σ 15 i) 1))) + 2)) + 0) 1000000))]) (rest := []) rfl rfl rfl rfl rfl (Nat.le_of_ble_eq_true rfl) rfl rfl (Nat.le_of_ble_eq_true rfl) (ty_rcS S (List.mem_of_getElem? (i := 5) rfl))) (Nat.le_of_ble_eq_true rfl) S (ty_setNote (by omega) n2) ?_
            intro hh σ3 S f P
            rw [nr] at P
            subst P
            replace fr := mi_Fm_tr fr f
            refine mi_s_inc (l' := [(2, .int (Int32.ofInt (i + 1))), (5, .int (Int32.ofInt 3)), (6, .int (Int32.ofInt 0)), (4, .int (Int32.ofInt ((3 + ((wln (T (ty_K' σ (mi_sA σ 15 i) 0))) + 0)) + ((wln (T (ty_K' σ (mi_sA σ 15 i) 1))) + 2)))), (3, .int (Int32.ofInt (mi_sA σ 15 i))), (0, .ref 52), (1, .int (Int32.ofInt nd))]) rfl rfl rfl (by decide) rfl ?_
            refine mi_wp_p (pc' := 18) rfl rfl rfl ?_
            refine mi_wp_lw (l := [(2, .int (Int32.ofInt (i + 1))), (0, .ref 52), (1, .int (Int32.ofInt nd))]) (mi_lw_of (show List.Nodup [2, 0, 1] by decide) ⟨rfl, rfl, rfl, trivial⟩) ?_
            refine ih _ (by omega) _ (i + 1) rfl (by omega) (by omega) (ga_L_set E G hi0 hi ?_) _ S fr
            · show _ = wln (T (mi_sA σ 15 i))
              unfold wln at *
              rw [hw] <;> omega
        · intro (c1 : ¬ ((bki (pos 5 0) (T (ty_K' σ (mi_sA σ 15 i) 0))) = 0))
          refine mi_wp_p (pc' := 100) (st' := [.int (Int32.ofInt 2), .int (Int32.ofInt (wln (T (ty_K' σ (mi_sA σ 15 i) 0)))), .int (Int32.ofInt 3)]) rfl rfl rfl ?_
          refine mi_wp_p (pc' := 104) rfl rfl rfl ?_
          refine mi_s_add rfl rfl ?_
          refine mi_s_add rfl rfl ?_
          refine mi_wp_p (pc' := 108) (l' := [(4, .int (Int32.ofInt (3 + ((wln (T (ty_K' σ (mi_sA σ 15 i) 0))) + 2)))), (6, .int (Int32.ofInt (ty_K' σ (mi_sA σ 15 i) 0))), (5, .int (Int32.ofInt 0)), (3, .int (Int32.ofInt (mi_sA σ 15 i))), (2, .int (Int32.ofInt i)), (0, .ref 52), (1, .int (Int32.ofInt nd))]) (st' := []) rfl rfl rfl ?_
          refine mi_s_inc (l' := [(5, .int (Int32.ofInt 1)), (4, .int (Int32.ofInt (3 + ((wln (T (ty_K' σ (mi_sA σ 15 i) 0))) + 2)))), (6, .int (Int32.ofInt (ty_K' σ (mi_sA σ 15 i) 0))), (3, .int (Int32.ofInt (mi_sA σ 15 i))), (2, .int (Int32.ofInt i)), (0, .ref 52), (1, .int (Int32.ofInt nd))]) rfl rfl rfl (by decide) rfl ?_
          refine mi_wp_p (pc' := 55) rfl rfl rfl ?_
          refine mi_wp_p (pc' := 57) (st' := [.int (Int32.ofInt 1)]) rfl rfl rfl ?_
          refine mi_wp_p (pc' := 58) (st' := [.int (Int32.ofInt 3), .int (Int32.ofInt 1)]) rfl rfl rfl ?_
          refine mi_s_if2 (t := 114) rfl rfl rfl (by unfold mi_R; omega) (by unfold mi_R; omega) (fun hc_ => absurd (show 3 ≤ (1 : Int) from hc_) (by omega)) (fun _ => ?_)
          refine mi_wp_p (pc' := 62) (st' := [.ref 52]) rfl rfl rfl ?_
          refine ty_s_gr S rfl rfl rfl (List.mem_of_getElem? (i := 64) rfl) ?_
          refine mi_wp_p (pc' := 66) (st' := [.int (Int32.ofInt (mi_sA σ 15 i)), .ref 9]) rfl rfl rfl ?_
          refine mi_wp_p (pc' := 68) (st' := [.int (Int32.ofInt 1), .int (Int32.ofInt (mi_sA σ 15 i)), .ref 9]) rfl rfl rfl ?_
          refine ty_s_ci rfl rfl rfl rfl rfl rfl (mi_cal_v2 (np := 2) (args := [.ref 9, .int (Int32.ofInt (mi_sA σ 15 i)), .int (Int32.ofInt 1)]) (rest := []) rfl rfl rfl rfl rfl (Nat.le_of_ble_eq_true rfl) rfl rfl (Nat.le_of_ble_eq_true rfl) (ty_rcS S (List.mem_of_getElem? (i := 5) rfl))) (Nat.le_of_ble_eq_true rfl) S (ty_kidOf n1 n2 (by omega) (by rw [nr]; exact n4 1 (by omega) (by omega))) ?_
          intro x hh σu S f P
          obtain ⟨g1, g2⟩ := P
          rw [g2] at S
          rw [nr] at g1
          replace g1 : x = ty_K' σ (mi_sA σ 15 i) 1 := g1
          rw [g1]
          clear g1 g2
          replace fr := mi_Fm_tr fr f
          refine mi_wp_p (pc' := 73) (l' := [(6, .int (Int32.ofInt (ty_K' σ (mi_sA σ 15 i) 1))), (5, .int (Int32.ofInt 1)), (4, .int (Int32.ofInt (3 + ((wln (T (ty_K' σ (mi_sA σ 15 i) 0))) + 2)))), (3, .int (Int32.ofInt (mi_sA σ 15 i))), (2, .int (Int32.ofInt i)), (0, .ref 52), (1, .int (Int32.ofInt nd))]) (st' := []) rfl rfl rfl ?_
          refine mi_wp_p (pc' := 75) (st' := [.int (Int32.ofInt (ty_K' σ (mi_sA σ 15 i) 1))]) rfl rfl rfl ?_
          refine mi_s_if1 (t := 108) rfl rfl rfl (by unfold mi_R; omega) (fun hc_ => absurd (show (ty_K' σ (mi_sA σ 15 i) 1) = 0 from hc_) (by omega)) (fun _ => ?_)
          refine mi_wp_p (pc' := 80) (st' := [.int (Int32.ofInt (3 + ((wln (T (ty_K' σ (mi_sA σ 15 i) 0))) + 2)))]) rfl rfl rfl ?_
          refine mi_wp_p (pc' := 81) (st' := [.ref 52, .int (Int32.ofInt (3 + ((wln (T (ty_K' σ (mi_sA σ 15 i) 0))) + 2)))]) rfl rfl rfl ?_
          refine ty_s_gr S rfl rfl rfl (List.mem_of_getElem? (i := 64) rfl) ?_
          refine mi_wp_p (pc' := 86) (st' := [.int (Int32.ofInt (ty_K' σ (mi_sA σ 15 i) 1)), .ref 9, .int (Int32.ofInt (3 + ((wln (T (ty_K' σ (mi_sA σ 15 i) 0))) + 2)))]) rfl rfl rfl ?_
          refine ty_s_ci rfl rfl rfl rfl rfl rfl (mi_cal_v2 (np := 1) (args := [.ref 9, .int (Int32.ofInt (ty_K' σ (mi_sA σ 15 i) 1))]) (rest := [.int (Int32.ofInt (3 + ((wln (T (ty_K' σ (mi_sA σ 15 i) 0))) + 2)))]) rfl rfl rfl rfl rfl (Nat.le_of_ble_eq_true rfl) rfl rfl (Nat.le_of_ble_eq_true rfl) (ty_rcS S (List.mem_of_getElem? (i := 5) rfl))) (Nat.le_of_ble_eq_true rfl) S (ty_noteOf (by omega) p1b) ?_
          intro x hh σu S f P
          obtain ⟨g1, g2⟩ := P
          rw [g2] at S
          rw [r1, m1] at g1
          rw [g1]
          clear g1 g2
          replace fr := mi_Fm_tr fr f
          refine mi_wp_p (pc' := 90) (st' := [.ref 52, .int (Int32.ofInt (wln (T (ty_K' σ (mi_sA σ 15 i) 1)))), .int (Int32.ofInt (3 + ((wln (T (ty_K' σ (mi_sA σ 15 i) 0))) + 2)))]) rfl rfl rfl ?_
          refine mi_wp_p (pc' := 91) (st' := [.int (Int32.ofInt (mi_sA σ 15 i)), .ref 52, .int (Int32.ofInt (wln (T (ty_K' σ (mi_sA σ 15 i) 1)))), .int (Int32.ofInt (3 + ((wln (T (ty_K' σ (mi_sA σ 15 i) 0))) + 2)))]) rfl rfl rfl ?_
          refine mi_wp_p (pc' := 93) (st' := [.int (Int32.ofInt 1), .int (Int32.ofInt (mi_sA σ 15 i)), .ref 52, .int (Int32.ofInt (wln (T (ty_K' σ (mi_sA σ 15 i) 1)))), .int (Int32.ofInt (3 + ((wln (T (ty_K' σ (mi_sA σ 15 i) 0))) + 2)))]) rfl rfl rfl ?_
          refine ty_s_ci rfl rfl rfl rfl rfl rfl (mi_cal_v2 (np := 2) (args := [.ref 52, .int (Int32.ofInt (mi_sA σ 15 i)), .int (Int32.ofInt 1)]) (rest := [.int (Int32.ofInt (wln (T (ty_K' σ (mi_sA σ 15 i) 1)))), .int (Int32.ofInt (3 + ((wln (T (ty_K' σ (mi_sA σ 15 i) 0))) + 2)))]) rfl rfl rfl rfl rfl (Nat.le_of_ble_eq_true rfl) rfl rfl (Nat.le_of_ble_eq_true rfl) (ty_rcS S (List.mem_of_getElem? (i := 27) rfl))) (Nat.le_of_ble_eq_true rfl) S (iw_T HT ZT GT n3 (by omega)) ?_
          intro x hh σu S f P
          obtain ⟨g1, g2⟩ := P
          rw [g2] at S
          rw [ht] at g1
          replace g1 : x = bki (pos 5 1) (T (ty_K' σ (mi_sA σ 15 i) 1)) := g1
          rw [g1]
          clear g1 g2
          replace fr := mi_Fm_tr fr f
          refine mi_s_if1 (t := 103) rfl rfl rfl (by unfold mi_R; omega) ?_ ?_
          · intro (c3 : (bki (pos 5 1) (T (ty_K' σ (mi_sA σ 15 i) 1))) = 0)
            refine mi_wp_p (pc' := 104) (st' := [.int (Int32.ofInt 0), .int (Int32.ofInt (wln (T (ty_K' σ (mi_sA σ 15 i) 1)))), .int (Int32.ofInt (3 + ((wln (T (ty_K' σ (mi_sA σ 15 i) 0))) + 2)))]) rfl rfl rfl ?_
            refine mi_s_add rfl rfl ?_
            refine mi_s_add rfl rfl ?_
            refine mi_wp_p (pc' := 108) (l' := [(4, .int (Int32.ofInt ((3 + ((wln (T (ty_K' σ (mi_sA σ 15 i) 0))) + 2)) + ((wln (T (ty_K' σ (mi_sA σ 15 i) 1))) + 0)))), (6, .int (Int32.ofInt (ty_K' σ (mi_sA σ 15 i) 1))), (5, .int (Int32.ofInt 1)), (3, .int (Int32.ofInt (mi_sA σ 15 i))), (2, .int (Int32.ofInt i)), (0, .ref 52), (1, .int (Int32.ofInt nd))]) (st' := []) rfl rfl rfl ?_
            refine mi_s_inc (l' := [(5, .int (Int32.ofInt 2)), (4, .int (Int32.ofInt ((3 + ((wln (T (ty_K' σ (mi_sA σ 15 i) 0))) + 2)) + ((wln (T (ty_K' σ (mi_sA σ 15 i) 1))) + 0)))), (6, .int (Int32.ofInt (ty_K' σ (mi_sA σ 15 i) 1))), (3, .int (Int32.ofInt (mi_sA σ 15 i))), (2, .int (Int32.ofInt i)), (0, .ref 52), (1, .int (Int32.ofInt nd))]) rfl rfl rfl (by decide) rfl ?_
            refine mi_wp_p (pc' := 55) rfl rfl rfl ?_
            refine mi_wp_p (pc' := 57) (st' := [.int (Int32.ofInt 2)]) rfl rfl rfl ?_
            refine mi_wp_p (pc' := 58) (st' := [.int (Int32.ofInt 3), .int (Int32.ofInt 2)]) rfl rfl rfl ?_
            refine mi_s_if2 (t := 114) rfl rfl rfl (by unfold mi_R; omega) (by unfold mi_R; omega) (fun hc_ => absurd (show 3 ≤ (2 : Int) from hc_) (by omega)) (fun _ => ?_)
            refine mi_wp_p (pc' := 62) (st' := [.ref 52]) rfl rfl rfl ?_
            refine ty_s_gr S rfl rfl rfl (List.mem_of_getElem? (i := 64) rfl) ?_
            refine mi_wp_p (pc' := 66) (st' := [.int (Int32.ofInt (mi_sA σ 15 i)), .ref 9]) rfl rfl rfl ?_
            refine mi_wp_p (pc' := 68) (st' := [.int (Int32.ofInt 2), .int (Int32.ofInt (mi_sA σ 15 i)), .ref 9]) rfl rfl rfl ?_
            refine ty_s_ci rfl rfl rfl rfl rfl rfl (mi_cal_v2 (np := 2) (args := [.ref 9, .int (Int32.ofInt (mi_sA σ 15 i)), .int (Int32.ofInt 2)]) (rest := []) rfl rfl rfl rfl rfl (Nat.le_of_ble_eq_true rfl) rfl rfl (Nat.le_of_ble_eq_true rfl) (ty_rcS S (List.mem_of_getElem? (i := 5) rfl))) (Nat.le_of_ble_eq_true rfl) S (ty_kidOf n1 n2 (by omega) (by rw [nr]; exact n4 2 (by omega) (by omega))) ?_
            intro x hh σu S f P
            obtain ⟨g1, g2⟩ := P
            rw [g2] at S
            rw [nr] at g1
            replace g1 : x = ty_K' σ (mi_sA σ 15 i) 2 := g1
            rw [z2] at g1
            rw [g1]
            clear g1 g2
            replace fr := mi_Fm_tr fr f
            refine mi_wp_p (pc' := 73) (l' := [(6, .int (Int32.ofInt 0)), (5, .int (Int32.ofInt 2)), (4, .int (Int32.ofInt ((3 + ((wln (T (ty_K' σ (mi_sA σ 15 i) 0))) + 2)) + ((wln (T (ty_K' σ (mi_sA σ 15 i) 1))) + 0)))), (3, .int (Int32.ofInt (mi_sA σ 15 i))), (2, .int (Int32.ofInt i)), (0, .ref 52), (1, .int (Int32.ofInt nd))]) (st' := []) rfl rfl rfl ?_
            refine mi_wp_p (pc' := 75) (st' := [.int (Int32.ofInt 0)]) rfl rfl rfl ?_
            refine mi_s_if1 (t := 108) rfl rfl rfl (by unfold mi_R; omega) (fun _ => ?_) (fun hc_ => absurd (show (0 : Int) = 0 by omega) hc_)
            refine mi_s_inc (l' := [(5, .int (Int32.ofInt 3)), (6, .int (Int32.ofInt 0)), (4, .int (Int32.ofInt ((3 + ((wln (T (ty_K' σ (mi_sA σ 15 i) 0))) + 2)) + ((wln (T (ty_K' σ (mi_sA σ 15 i) 1))) + 0)))), (3, .int (Int32.ofInt (mi_sA σ 15 i))), (2, .int (Int32.ofInt i)), (0, .ref 52), (1, .int (Int32.ofInt nd))]) rfl rfl rfl (by decide) rfl ?_
            refine mi_wp_p (pc' := 55) rfl rfl rfl ?_
            refine mi_wp_p (pc' := 57) (st' := [.int (Int32.ofInt 3)]) rfl rfl rfl ?_
            refine mi_wp_p (pc' := 58) (st' := [.int (Int32.ofInt 3), .int (Int32.ofInt 3)]) rfl rfl rfl ?_
            refine mi_s_if2 (t := 114) rfl rfl rfl (by unfold mi_R; omega) (by unfold mi_R; omega) (fun _ => ?_) (fun hc_ => absurd (show 3 ≤ (3 : Int) by omega) hc_)
            refine mi_wp_p (pc' := 115) (st' := [.ref 52]) rfl rfl rfl ?_
            refine ty_s_gr S rfl rfl rfl (List.mem_of_getElem? (i := 64) rfl) ?_
            refine mi_wp_p (pc' := 119) (st' := [.int (Int32.ofInt (mi_sA σ 15 i)), .ref 9]) rfl rfl rfl ?_
            refine mi_wp_p (pc' := 121) (st' := [.int (Int32.ofInt ((3 + ((wln (T (ty_K' σ (mi_sA σ 15 i) 0))) + 2)) + ((wln (T (ty_K' σ (mi_sA σ 15 i) 1))) + 0))), .int (Int32.ofInt (mi_sA σ 15 i)), .ref 9]) rfl rfl rfl ?_
            refine mi_wp_p (pc' := 122) (st' := [.ref 52, .int (Int32.ofInt ((3 + ((wln (T (ty_K' σ (mi_sA σ 15 i) 0))) + 2)) + ((wln (T (ty_K' σ (mi_sA σ 15 i) 1))) + 0))), .int (Int32.ofInt (mi_sA σ 15 i)), .ref 9]) rfl rfl rfl ?_
            refine mi_wp_p (pc' := 123) (st' := [.int (Int32.ofInt (mi_sA σ 15 i)), .ref 52, .int (Int32.ofInt ((3 + ((wln (T (ty_K' σ (mi_sA σ 15 i) 0))) + 2)) + ((wln (T (ty_K' σ (mi_sA σ 15 i) 1))) + 0))), .int (Int32.ofInt (mi_sA σ 15 i)), .ref 9]) rfl rfl rfl ?_
            refine ty_s_ci rfl rfl rfl rfl rfl rfl (mi_cal_v2 (np := 1) (args := [.ref 52, .int (Int32.ofInt (mi_sA σ 15 i))]) (rest := [.int (Int32.ofInt ((3 + ((wln (T (ty_K' σ (mi_sA σ 15 i) 0))) + 2)) + ((wln (T (ty_K' σ (mi_sA σ 15 i) 1))) + 0))), .int (Int32.ofInt (mi_sA σ 15 i)), .ref 9]) rfl rfl rfl rfl rfl (Nat.le_of_ble_eq_true rfl) rfl rfl (Nat.le_of_ble_eq_true rfl) (ty_rcS S (List.mem_of_getElem? (i := 27) rfl))) (Nat.le_of_ble_eq_true rfl) S (wr_blanks0 n1 n2 nr (by omega) (by omega)) ?_
            intro x hh σu S f P
            obtain ⟨e1, e2⟩ := P
            rw [e2] at S
            rw [e1]
            clear e1 e2
            replace fr := mi_Fm_tr fr f
            refine mi_s_add rfl rfl ?_
            refine mi_s_ldc (e := 1000000) rfl rfl rfl (by decide +kernel) ?_
            refine mi_s_mn rfl rfl rfl (Nat.le_of_ble_eq_true rfl) (by unfold mi_R; omega) (by unfold mi_R; omega) ?_
            refine ty_s_cv rfl rfl rfl rfl rfl rfl (mi_cal_v2 (np := 2) (args := [.ref 9, .int (Int32.ofInt (mi_sA σ 15 i)), .int (Int32.ofInt (min (((3 + ((wln (T (ty_K' σ (mi_sA σ 15 i) 0))) + 2)) + ((wln (T (ty_K' σ (mi_sA σ 15 i) 1))) + 0)) + 0) 1000000))]) (rest := []) rfl rfl rfl rfl rfl (Nat.le_of_ble_eq_true rfl) rfl rfl (Nat.le_of_ble_eq_true rfl) (ty_rcS S (List.mem_of_getElem? (i := 5) rfl))) (Nat.le_of_ble_eq_true rfl) S (ty_setNote (by omega) n2) ?_
            intro hh σ3 S f P
            rw [nr] at P
            subst P
            replace fr := mi_Fm_tr fr f
            refine mi_s_inc (l' := [(2, .int (Int32.ofInt (i + 1))), (5, .int (Int32.ofInt 3)), (6, .int (Int32.ofInt 0)), (4, .int (Int32.ofInt ((3 + ((wln (T (ty_K' σ (mi_sA σ 15 i) 0))) + 2)) + ((wln (T (ty_K' σ (mi_sA σ 15 i) 1))) + 0)))), (3, .int (Int32.ofInt (mi_sA σ 15 i))), (0, .ref 52), (1, .int (Int32.ofInt nd))]) rfl rfl rfl (by decide) rfl ?_
            refine mi_wp_p (pc' := 18) rfl rfl rfl ?_
            refine mi_wp_lw (l := [(2, .int (Int32.ofInt (i + 1))), (0, .ref 52), (1, .int (Int32.ofInt nd))]) (mi_lw_of (show List.Nodup [2, 0, 1] by decide) ⟨rfl, rfl, rfl, trivial⟩) ?_
            refine ih _ (by omega) _ (i + 1) rfl (by omega) (by omega) (ga_L_set E G hi0 hi ?_) _ S fr
            · show _ = wln (T (mi_sA σ 15 i))
              unfold wln at *
              rw [hw] <;> omega
          · intro (c3 : ¬ ((bki (pos 5 1) (T (ty_K' σ (mi_sA σ 15 i) 1))) = 0))
            refine mi_wp_p (pc' := 100) (st' := [.int (Int32.ofInt 2), .int (Int32.ofInt (wln (T (ty_K' σ (mi_sA σ 15 i) 1)))), .int (Int32.ofInt (3 + ((wln (T (ty_K' σ (mi_sA σ 15 i) 0))) + 2)))]) rfl rfl rfl ?_
            refine mi_wp_p (pc' := 104) rfl rfl rfl ?_
            refine mi_s_add rfl rfl ?_
            refine mi_s_add rfl rfl ?_
            refine mi_wp_p (pc' := 108) (l' := [(4, .int (Int32.ofInt ((3 + ((wln (T (ty_K' σ (mi_sA σ 15 i) 0))) + 2)) + ((wln (T (ty_K' σ (mi_sA σ 15 i) 1))) + 2)))), (6, .int (Int32.ofInt (ty_K' σ (mi_sA σ 15 i) 1))), (5, .int (Int32.ofInt 1)), (3, .int (Int32.ofInt (mi_sA σ 15 i))), (2, .int (Int32.ofInt i)), (0, .ref 52), (1, .int (Int32.ofInt nd))]) (st' := []) rfl rfl rfl ?_
            refine mi_s_inc (l' := [(5, .int (Int32.ofInt 2)), (4, .int (Int32.ofInt ((3 + ((wln (T (ty_K' σ (mi_sA σ 15 i) 0))) + 2)) + ((wln (T (ty_K' σ (mi_sA σ 15 i) 1))) + 2)))), (6, .int (Int32.ofInt (ty_K' σ (mi_sA σ 15 i) 1))), (3, .int (Int32.ofInt (mi_sA σ 15 i))), (2, .int (Int32.ofInt i)), (0, .ref 52), (1, .int (Int32.ofInt nd))]) rfl rfl rfl (by decide) rfl ?_
            refine mi_wp_p (pc' := 55) rfl rfl rfl ?_
            refine mi_wp_p (pc' := 57) (st' := [.int (Int32.ofInt 2)]) rfl rfl rfl ?_
            refine mi_wp_p (pc' := 58) (st' := [.int (Int32.ofInt 3), .int (Int32.ofInt 2)]) rfl rfl rfl ?_
            refine mi_s_if2 (t := 114) rfl rfl rfl (by unfold mi_R; omega) (by unfold mi_R; omega) (fun hc_ => absurd (show 3 ≤ (2 : Int) from hc_) (by omega)) (fun _ => ?_)
            refine mi_wp_p (pc' := 62) (st' := [.ref 52]) rfl rfl rfl ?_
            refine ty_s_gr S rfl rfl rfl (List.mem_of_getElem? (i := 64) rfl) ?_
            refine mi_wp_p (pc' := 66) (st' := [.int (Int32.ofInt (mi_sA σ 15 i)), .ref 9]) rfl rfl rfl ?_
            refine mi_wp_p (pc' := 68) (st' := [.int (Int32.ofInt 2), .int (Int32.ofInt (mi_sA σ 15 i)), .ref 9]) rfl rfl rfl ?_
            refine ty_s_ci rfl rfl rfl rfl rfl rfl (mi_cal_v2 (np := 2) (args := [.ref 9, .int (Int32.ofInt (mi_sA σ 15 i)), .int (Int32.ofInt 2)]) (rest := []) rfl rfl rfl rfl rfl (Nat.le_of_ble_eq_true rfl) rfl rfl (Nat.le_of_ble_eq_true rfl) (ty_rcS S (List.mem_of_getElem? (i := 5) rfl))) (Nat.le_of_ble_eq_true rfl) S (ty_kidOf n1 n2 (by omega) (by rw [nr]; exact n4 2 (by omega) (by omega))) ?_
            intro x hh σu S f P
            obtain ⟨g1, g2⟩ := P
            rw [g2] at S
            rw [nr] at g1
            replace g1 : x = ty_K' σ (mi_sA σ 15 i) 2 := g1
            rw [z2] at g1
            rw [g1]
            clear g1 g2
            replace fr := mi_Fm_tr fr f
            refine mi_wp_p (pc' := 73) (l' := [(6, .int (Int32.ofInt 0)), (5, .int (Int32.ofInt 2)), (4, .int (Int32.ofInt ((3 + ((wln (T (ty_K' σ (mi_sA σ 15 i) 0))) + 2)) + ((wln (T (ty_K' σ (mi_sA σ 15 i) 1))) + 2)))), (3, .int (Int32.ofInt (mi_sA σ 15 i))), (2, .int (Int32.ofInt i)), (0, .ref 52), (1, .int (Int32.ofInt nd))]) (st' := []) rfl rfl rfl ?_
            refine mi_wp_p (pc' := 75) (st' := [.int (Int32.ofInt 0)]) rfl rfl rfl ?_
            refine mi_s_if1 (t := 108) rfl rfl rfl (by unfold mi_R; omega) (fun _ => ?_) (fun hc_ => absurd (show (0 : Int) = 0 by omega) hc_)
            refine mi_s_inc (l' := [(5, .int (Int32.ofInt 3)), (6, .int (Int32.ofInt 0)), (4, .int (Int32.ofInt ((3 + ((wln (T (ty_K' σ (mi_sA σ 15 i) 0))) + 2)) + ((wln (T (ty_K' σ (mi_sA σ 15 i) 1))) + 2)))), (3, .int (Int32.ofInt (mi_sA σ 15 i))), (2, .int (Int32.ofInt i)), (0, .ref 52), (1, .int (Int32.ofInt nd))]) rfl rfl rfl (by decide) rfl ?_
            refine mi_wp_p (pc' := 55) rfl rfl rfl ?_
            refine mi_wp_p (pc' := 57) (st' := [.int (Int32.ofInt 3)]) rfl rfl rfl ?_
            refine mi_wp_p (pc' := 58) (st' := [.int (Int32.ofInt 3), .int (Int32.ofInt 3)]) rfl rfl rfl ?_
            refine mi_s_if2 (t := 114) rfl rfl rfl (by unfold mi_R; omega) (by unfold mi_R; omega) (fun _ => ?_) (fun hc_ => absurd (show 3 ≤ (3 : Int) by omega) hc_)
            refine mi_wp_p (pc' := 115) (st' := [.ref 52]) rfl rfl rfl ?_
            refine ty_s_gr S rfl rfl rfl (List.mem_of_getElem? (i := 64) rfl) ?_
            refine mi_wp_p (pc' := 119) (st' := [.int (Int32.ofInt (mi_sA σ 15 i)), .ref 9]) rfl rfl rfl ?_
            refine mi_wp_p (pc' := 121) (st' := [.int (Int32.ofInt ((3 + ((wln (T (ty_K' σ (mi_sA σ 15 i) 0))) + 2)) + ((wln (T (ty_K' σ (mi_sA σ 15 i) 1))) + 2))), .int (Int32.ofInt (mi_sA σ 15 i)), .ref 9]) rfl rfl rfl ?_
            refine mi_wp_p (pc' := 122) (st' := [.ref 52, .int (Int32.ofInt ((3 + ((wln (T (ty_K' σ (mi_sA σ 15 i) 0))) + 2)) + ((wln (T (ty_K' σ (mi_sA σ 15 i) 1))) + 2))), .int (Int32.ofInt (mi_sA σ 15 i)), .ref 9]) rfl rfl rfl ?_
            refine mi_wp_p (pc' := 123) (st' := [.int (Int32.ofInt (mi_sA σ 15 i)), .ref 52, .int (Int32.ofInt ((3 + ((wln (T (ty_K' σ (mi_sA σ 15 i) 0))) + 2)) + ((wln (T (ty_K' σ (mi_sA σ 15 i) 1))) + 2))), .int (Int32.ofInt (mi_sA σ 15 i)), .ref 9]) rfl rfl rfl ?_
            refine ty_s_ci rfl rfl rfl rfl rfl rfl (mi_cal_v2 (np := 1) (args := [.ref 52, .int (Int32.ofInt (mi_sA σ 15 i))]) (rest := [.int (Int32.ofInt ((3 + ((wln (T (ty_K' σ (mi_sA σ 15 i) 0))) + 2)) + ((wln (T (ty_K' σ (mi_sA σ 15 i) 1))) + 2))), .int (Int32.ofInt (mi_sA σ 15 i)), .ref 9]) rfl rfl rfl rfl rfl (Nat.le_of_ble_eq_true rfl) rfl rfl (Nat.le_of_ble_eq_true rfl) (ty_rcS S (List.mem_of_getElem? (i := 27) rfl))) (Nat.le_of_ble_eq_true rfl) S (wr_blanks0 n1 n2 nr (by omega) (by omega)) ?_
            intro x hh σu S f P
            obtain ⟨e1, e2⟩ := P
            rw [e2] at S
            rw [e1]
            clear e1 e2
            replace fr := mi_Fm_tr fr f
            refine mi_s_add rfl rfl ?_
            refine mi_s_ldc (e := 1000000) rfl rfl rfl (by decide +kernel) ?_
            refine mi_s_mn rfl rfl rfl (Nat.le_of_ble_eq_true rfl) (by unfold mi_R; omega) (by unfold mi_R; omega) ?_
            refine ty_s_cv rfl rfl rfl rfl rfl rfl (mi_cal_v2 (np := 2) (args := [.ref 9, .int (Int32.ofInt (mi_sA σ 15 i)), .int (Int32.ofInt (min (((3 + ((wln (T (ty_K' σ (mi_sA σ 15 i) 0))) + 2)) + ((wln (T (ty_K' σ (mi_sA σ 15 i) 1))) + 2)) + 0) 1000000))]) (rest := []) rfl rfl rfl rfl rfl (Nat.le_of_ble_eq_true rfl) rfl rfl (Nat.le_of_ble_eq_true rfl) (ty_rcS S (List.mem_of_getElem? (i := 5) rfl))) (Nat.le_of_ble_eq_true rfl) S (ty_setNote (by omega) n2) ?_
            intro hh σ3 S f P
            rw [nr] at P
            subst P
            replace fr := mi_Fm_tr fr f
            refine mi_s_inc (l' := [(2, .int (Int32.ofInt (i + 1))), (5, .int (Int32.ofInt 3)), (6, .int (Int32.ofInt 0)), (4, .int (Int32.ofInt ((3 + ((wln (T (ty_K' σ (mi_sA σ 15 i) 0))) + 2)) + ((wln (T (ty_K' σ (mi_sA σ 15 i) 1))) + 2)))), (3, .int (Int32.ofInt (mi_sA σ 15 i))), (0, .ref 52), (1, .int (Int32.ofInt nd))]) rfl rfl rfl (by decide) rfl ?_
            refine mi_wp_p (pc' := 18) rfl rfl rfl ?_
            refine mi_wp_lw (l := [(2, .int (Int32.ofInt (i + 1))), (0, .ref 52), (1, .int (Int32.ofInt nd))]) (mi_lw_of (show List.Nodup [2, 0, 1] by decide) ⟨rfl, rfl, rfl, trivial⟩) ?_
            refine ih _ (by omega) _ (i + 1) rfl (by omega) (by omega) (ga_L_set E G hi0 hi ?_) _ S fr
            · show _ = wln (T (mi_sA σ 15 i))
              unfold wln at *
              rw [hw] <;> omega
      · have z2 : ty_K' σ (mi_sA σ 15 i) 2 = 0 := (c7 2 (by omega) (by omega)).2 (by rw [ht]; decide)
        have s0 : Sx (ty_K' σ (mi_sA σ 15 i) 0) := kid_T HT n3 (by omega) (by rw [ht]; decide) (by omega)
        obtain ⟨⟨p0, p0b⟩, r0, -⟩ := HT.2 _ s0
        rw [if_neg (by omega)] at m0
        have w0 := wln_0 (T (ty_K' σ (mi_sA σ 15 i) 0))
        have b0 := bki_01 (pos 6 0) (T (ty_K' σ (mi_sA σ 15 i) 0))
        have u0 : wln (T (ty_K' σ (mi_sA σ 15 i) 0)) ≤ 1000000 := by unfold wln; omega
        have s1 : Sx (ty_K' σ (mi_sA σ 15 i) 1) := kid_T HT n3 (by omega) (by rw [ht]; decide) (by omega)
        obtain ⟨⟨p1, p1b⟩, r1, -⟩ := HT.2 _ s1
        rw [if_neg (by omega)] at m1
        have w1 := wln_0 (T (ty_K' σ (mi_sA σ 15 i) 1))
        have b1 := bki_01 (pos 6 1) (T (ty_K' σ (mi_sA σ 15 i) 1))
        have u1 : wln (T (ty_K' σ (mi_sA σ 15 i) 1)) ≤ 1000000 := by unfold wln; omega
        have hw : wl (T (mi_sA σ 15 i)) = 4 + (wl (T (ty_K' σ (mi_sA σ 15 i) 0)) + 2 * bki (pos 6 0) (T (ty_K' σ (mi_sA σ 15 i) 0))) + (wl (T (ty_K' σ (mi_sA σ 15 i) 1)) + 2 * bki (pos 6 1) (T (ty_K' σ (mi_sA σ 15 i) 1))) := by
          rw [c6 (by omega) (by omega), wl_tn, ht]
          rfl
        refine mi_wp_p (pc' := 19) (st' := [.int (Int32.ofInt i)]) rfl rfl rfl ?_
        refine mi_wp_p (pc' := 20) (st' := [.ref 52, .int (Int32.ofInt i)]) rfl rfl rfl ?_
        refine ty_s_gr S rfl rfl rfl (List.mem_of_getElem? (i := 64) rfl) ?_
        refine ty_s_ci rfl rfl rfl rfl rfl rfl (mi_cal_v2 (np := 0) (args := [.ref 9]) (rest := [.int (Int32.ofInt i)]) rfl rfl rfl rfl rfl (Nat.le_of_ble_eq_true rfl) rfl rfl (Nat.le_of_ble_eq_true rfl) (ty_rcS S (List.mem_of_getElem? (i := 5) rfl))) (Nat.le_of_ble_eq_true rfl) S ty_gathered ?_
        intro x hh σu S f P
        obtain ⟨e1, e2⟩ := P
        rw [e2] at S
        rw [e1]
        clear e1 e2
        replace fr := mi_Fm_tr fr f
        refine mi_s_if2 (t := 141) rfl rfl rfl (by unfold mi_R; omega) (by unfold mi_R; omega) (fun hc_ => absurd (show (mi_sF σ 9 10) ≤ i from hc_) (by omega)) (fun _ => ?_)
        refine mi_wp_p (pc' := 30) (st' := [.ref 52]) rfl rfl rfl ?_
        refine ty_s_gr S rfl rfl rfl (List.mem_of_getElem? (i := 64) rfl) ?_
        refine mi_wp_p (pc' := 34) (st' := [.int (Int32.ofInt i), .ref 9]) rfl rfl rfl ?_
        refine ty_s_ci rfl rfl rfl rfl rfl rfl (mi_cal_v2 (np := 1) (args := [.ref 9, .int (Int32.ofInt i)]) (rest := []) rfl rfl rfl rfl rfl (Nat.le_of_ble_eq_true rfl) rfl rfl (Nat.le_of_ble_eq_true rfl) (ty_rcS S (List.mem_of_getElem? (i := 5) rfl))) (Nat.le_of_ble_eq_true rfl) S (ty_gatheredAt hi0 hi (by omega)) ?_
        intro x hh σu S f P
        obtain ⟨e1, e2⟩ := P
        rw [e2] at S
        rw [e1]
        clear e1 e2
        replace fr := mi_Fm_tr fr f
        refine mi_wp_p (pc' := 38) (l' := [(3, .int (Int32.ofInt (mi_sA σ 15 i))), (2, .int (Int32.ofInt i)), (0, .ref 52), (1, .int (Int32.ofInt nd))]) (st' := []) rfl rfl rfl ?_
        refine mi_wp_p (pc' := 39) (st' := [.ref 52]) rfl rfl rfl ?_
        refine mi_wp_p (pc' := 40) (st' := [.ref 52, .ref 52]) rfl rfl rfl ?_
        refine ty_s_gr S rfl rfl rfl (List.mem_of_getElem? (i := 64) rfl) ?_
        refine mi_wp_p (pc' := 44) (st' := [.int (Int32.ofInt (mi_sA σ 15 i)), .ref 9, .ref 52]) rfl rfl rfl ?_
        refine ty_s_ci rfl rfl rfl rfl rfl rfl (mi_cal_v2 (np := 1) (args := [.ref 9, .int (Int32.ofInt (mi_sA σ 15 i))]) (rest := [.ref 52]) rfl rfl rfl rfl rfl (Nat.le_of_ble_eq_true rfl) rfl rfl (Nat.le_of_ble_eq_true rfl) (ty_rcS S (List.mem_of_getElem? (i := 5) rfl))) (Nat.le_of_ble_eq_true rfl) S (ty_tagOf (by omega) n2) ?_
        intro x hh σu S f P
        obtain ⟨g1, g2⟩ := P
        rw [g2] at S
        rw [g1, nr, ht]
        clear g1 g2
        replace fr := mi_Fm_tr fr f
        refine ty_s_ci rfl rfl rfl rfl rfl rfl (mi_cal_v2 (np := 1) (args := [.ref 52, .int (Int32.ofInt 6)]) (rest := []) rfl rfl rfl rfl rfl (Nat.le_of_ble_eq_true rfl) rfl rfl (Nat.le_of_ble_eq_true rfl) (ty_rcS S (List.mem_of_getElem? (i := 27) rfl))) (Nat.le_of_ble_eq_true rfl) S wr_own6 ?_
        intro x hh σu S f P
        obtain ⟨e1, e2⟩ := P
        rw [e2] at S
        rw [e1]
        clear e1 e2
        replace fr := mi_Fm_tr fr f
        refine mi_wp_p (pc' := 52) (l' := [(4, .int (Int32.ofInt 4)), (3, .int (Int32.ofInt (mi_sA σ 15 i))), (2, .int (Int32.ofInt i)), (0, .ref 52), (1, .int (Int32.ofInt nd))]) (st' := []) rfl rfl rfl ?_
        refine mi_wp_p (pc' := 53) (st' := [.int (Int32.ofInt 0)]) rfl rfl rfl ?_
        refine mi_wp_p (pc' := 55) (l' := [(5, .int (Int32.ofInt 0)), (4, .int (Int32.ofInt 4)), (3, .int (Int32.ofInt (mi_sA σ 15 i))), (2, .int (Int32.ofInt i)), (0, .ref 52), (1, .int (Int32.ofInt nd))]) (st' := []) rfl rfl rfl ?_
        refine mi_wp_p (pc' := 57) (st' := [.int (Int32.ofInt 0)]) rfl rfl rfl ?_
        refine mi_wp_p (pc' := 58) (st' := [.int (Int32.ofInt 3), .int (Int32.ofInt 0)]) rfl rfl rfl ?_
        refine mi_s_if2 (t := 114) rfl rfl rfl (by unfold mi_R; omega) (by unfold mi_R; omega) (fun hc_ => absurd (show 3 ≤ (0 : Int) from hc_) (by omega)) (fun _ => ?_)
        refine mi_wp_p (pc' := 62) (st' := [.ref 52]) rfl rfl rfl ?_
        refine ty_s_gr S rfl rfl rfl (List.mem_of_getElem? (i := 64) rfl) ?_
        refine mi_wp_p (pc' := 66) (st' := [.int (Int32.ofInt (mi_sA σ 15 i)), .ref 9]) rfl rfl rfl ?_
        refine mi_wp_p (pc' := 68) (st' := [.int (Int32.ofInt 0), .int (Int32.ofInt (mi_sA σ 15 i)), .ref 9]) rfl rfl rfl ?_
        refine ty_s_ci rfl rfl rfl rfl rfl rfl (mi_cal_v2 (np := 2) (args := [.ref 9, .int (Int32.ofInt (mi_sA σ 15 i)), .int (Int32.ofInt 0)]) (rest := []) rfl rfl rfl rfl rfl (Nat.le_of_ble_eq_true rfl) rfl rfl (Nat.le_of_ble_eq_true rfl) (ty_rcS S (List.mem_of_getElem? (i := 5) rfl))) (Nat.le_of_ble_eq_true rfl) S (ty_kidOf n1 n2 (by omega) (by rw [nr]; exact n4 0 (by omega) (by omega))) ?_
        intro x hh σu S f P
        obtain ⟨g1, g2⟩ := P
        rw [g2] at S
        rw [nr] at g1
        replace g1 : x = ty_K' σ (mi_sA σ 15 i) 0 := g1
        rw [g1]
        clear g1 g2
        replace fr := mi_Fm_tr fr f
        refine mi_wp_p (pc' := 73) (l' := [(6, .int (Int32.ofInt (ty_K' σ (mi_sA σ 15 i) 0))), (5, .int (Int32.ofInt 0)), (4, .int (Int32.ofInt 4)), (3, .int (Int32.ofInt (mi_sA σ 15 i))), (2, .int (Int32.ofInt i)), (0, .ref 52), (1, .int (Int32.ofInt nd))]) (st' := []) rfl rfl rfl ?_
        refine mi_wp_p (pc' := 75) (st' := [.int (Int32.ofInt (ty_K' σ (mi_sA σ 15 i) 0))]) rfl rfl rfl ?_
        refine mi_s_if1 (t := 108) rfl rfl rfl (by unfold mi_R; omega) (fun hc_ => absurd (show (ty_K' σ (mi_sA σ 15 i) 0) = 0 from hc_) (by omega)) (fun _ => ?_)
        refine mi_wp_p (pc' := 80) (st' := [.int (Int32.ofInt 4)]) rfl rfl rfl ?_
        refine mi_wp_p (pc' := 81) (st' := [.ref 52, .int (Int32.ofInt 4)]) rfl rfl rfl ?_
        refine ty_s_gr S rfl rfl rfl (List.mem_of_getElem? (i := 64) rfl) ?_
        refine mi_wp_p (pc' := 86) (st' := [.int (Int32.ofInt (ty_K' σ (mi_sA σ 15 i) 0)), .ref 9, .int (Int32.ofInt 4)]) rfl rfl rfl ?_
        refine ty_s_ci rfl rfl rfl rfl rfl rfl (mi_cal_v2 (np := 1) (args := [.ref 9, .int (Int32.ofInt (ty_K' σ (mi_sA σ 15 i) 0))]) (rest := [.int (Int32.ofInt 4)]) rfl rfl rfl rfl rfl (Nat.le_of_ble_eq_true rfl) rfl rfl (Nat.le_of_ble_eq_true rfl) (ty_rcS S (List.mem_of_getElem? (i := 5) rfl))) (Nat.le_of_ble_eq_true rfl) S (ty_noteOf (by omega) p0b) ?_
        intro x hh σu S f P
        obtain ⟨g1, g2⟩ := P
        rw [g2] at S
        rw [r0, m0] at g1
        rw [g1]
        clear g1 g2
        replace fr := mi_Fm_tr fr f
        refine mi_wp_p (pc' := 90) (st' := [.ref 52, .int (Int32.ofInt (wln (T (ty_K' σ (mi_sA σ 15 i) 0)))), .int (Int32.ofInt 4)]) rfl rfl rfl ?_
        refine mi_wp_p (pc' := 91) (st' := [.int (Int32.ofInt (mi_sA σ 15 i)), .ref 52, .int (Int32.ofInt (wln (T (ty_K' σ (mi_sA σ 15 i) 0)))), .int (Int32.ofInt 4)]) rfl rfl rfl ?_
        refine mi_wp_p (pc' := 93) (st' := [.int (Int32.ofInt 0), .int (Int32.ofInt (mi_sA σ 15 i)), .ref 52, .int (Int32.ofInt (wln (T (ty_K' σ (mi_sA σ 15 i) 0)))), .int (Int32.ofInt 4)]) rfl rfl rfl ?_
        refine ty_s_ci rfl rfl rfl rfl rfl rfl (mi_cal_v2 (np := 2) (args := [.ref 52, .int (Int32.ofInt (mi_sA σ 15 i)), .int (Int32.ofInt 0)]) (rest := [.int (Int32.ofInt (wln (T (ty_K' σ (mi_sA σ 15 i) 0)))), .int (Int32.ofInt 4)]) rfl rfl rfl rfl rfl (Nat.le_of_ble_eq_true rfl) rfl rfl (Nat.le_of_ble_eq_true rfl) (ty_rcS S (List.mem_of_getElem? (i := 27) rfl))) (Nat.le_of_ble_eq_true rfl) S (iw_T HT ZT GT n3 (by omega)) ?_
        intro x hh σu S f P
        obtain ⟨g1, g2⟩ := P
        rw [g2] at S
        rw [ht] at g1
        replace g1 : x = bki (pos 6 0) (T (ty_K' σ (mi_sA σ 15 i) 0)) := g1
        rw [g1]
        clear g1 g2
        replace fr := mi_Fm_tr fr f
        refine mi_s_if1 (t := 103) rfl rfl rfl (by unfold mi_R; omega) ?_ ?_
        · intro (c1 : (bki (pos 6 0) (T (ty_K' σ (mi_sA σ 15 i) 0))) = 0)
          refine mi_wp_p (pc' := 104) (st' := [.int (Int32.ofInt 0), .int (Int32.ofInt (wln (T (ty_K' σ (mi_sA σ 15 i) 0)))), .int (Int32.ofInt 4)]) rfl rfl rfl ?_
          refine mi_s_add rfl rfl ?_
          refine mi_s_add rfl rfl ?_
          refine mi_wp_p (pc' := 108) (l' := [(4, .int (Int32.ofInt (4 + ((wln (T (ty_K' σ (mi_sA σ 15 i) 0))) + 0)))), (6, .int (Int32.ofInt (ty_K' σ (mi_sA σ 15 i) 0))), (5, .int (Int32.ofInt 0)), (3, .int (Int32.ofInt (mi_sA σ 15 i))), (2, .int (Int32.ofInt i)), (0, .ref 52), (1, .int (Int32.ofInt nd))]) (st' := []) rfl rfl rfl ?_
          refine mi_s_inc (l' := [(5, .int (Int32.ofInt 1)), (4, .int (Int32.ofInt (4 + ((wln (T (ty_K' σ (mi_sA σ 15 i) 0))) + 0)))), (6, .int (Int32.ofInt (ty_K' σ (mi_sA σ 15 i) 0))), (3, .int (Int32.ofInt (mi_sA σ 15 i))), (2, .int (Int32.ofInt i)), (0, .ref 52), (1, .int (Int32.ofInt nd))]) rfl rfl rfl (by decide) rfl ?_
          refine mi_wp_p (pc' := 55) rfl rfl rfl ?_
          refine mi_wp_p (pc' := 57) (st' := [.int (Int32.ofInt 1)]) rfl rfl rfl ?_
          refine mi_wp_p (pc' := 58) (st' := [.int (Int32.ofInt 3), .int (Int32.ofInt 1)]) rfl rfl rfl ?_
          refine mi_s_if2 (t := 114) rfl rfl rfl (by unfold mi_R; omega) (by unfold mi_R; omega) (fun hc_ => absurd (show 3 ≤ (1 : Int) from hc_) (by omega)) (fun _ => ?_)
          refine mi_wp_p (pc' := 62) (st' := [.ref 52]) rfl rfl rfl ?_
          refine ty_s_gr S rfl rfl rfl (List.mem_of_getElem? (i := 64) rfl) ?_
          refine mi_wp_p (pc' := 66) (st' := [.int (Int32.ofInt (mi_sA σ 15 i)), .ref 9]) rfl rfl rfl ?_
          refine mi_wp_p (pc' := 68) (st' := [.int (Int32.ofInt 1), .int (Int32.ofInt (mi_sA σ 15 i)), .ref 9]) rfl rfl rfl ?_
          refine ty_s_ci rfl rfl rfl rfl rfl rfl (mi_cal_v2 (np := 2) (args := [.ref 9, .int (Int32.ofInt (mi_sA σ 15 i)), .int (Int32.ofInt 1)]) (rest := []) rfl rfl rfl rfl rfl (Nat.le_of_ble_eq_true rfl) rfl rfl (Nat.le_of_ble_eq_true rfl) (ty_rcS S (List.mem_of_getElem? (i := 5) rfl))) (Nat.le_of_ble_eq_true rfl) S (ty_kidOf n1 n2 (by omega) (by rw [nr]; exact n4 1 (by omega) (by omega))) ?_
          intro x hh σu S f P
          obtain ⟨g1, g2⟩ := P
          rw [g2] at S
          rw [nr] at g1
          replace g1 : x = ty_K' σ (mi_sA σ 15 i) 1 := g1
          rw [g1]
          clear g1 g2
          replace fr := mi_Fm_tr fr f
          refine mi_wp_p (pc' := 73) (l' := [(6, .int (Int32.ofInt (ty_K' σ (mi_sA σ 15 i) 1))), (5, .int (Int32.ofInt 1)), (4, .int (Int32.ofInt (4 + ((wln (T (ty_K' σ (mi_sA σ 15 i) 0))) + 0)))), (3, .int (Int32.ofInt (mi_sA σ 15 i))), (2, .int (Int32.ofInt i)), (0, .ref 52), (1, .int (Int32.ofInt nd))]) (st' := []) rfl rfl rfl ?_
          refine mi_wp_p (pc' := 75) (st' := [.int (Int32.ofInt (ty_K' σ (mi_sA σ 15 i) 1))]) rfl rfl rfl ?_
          refine mi_s_if1 (t := 108) rfl rfl rfl (by unfold mi_R; omega) (fun hc_ => absurd (show (ty_K' σ (mi_sA σ 15 i) 1) = 0 from hc_) (by omega)) (fun _ => ?_)
          refine mi_wp_p (pc' := 80) (st' := [.int (Int32.ofInt (4 + ((wln (T (ty_K' σ (mi_sA σ 15 i) 0))) + 0)))]) rfl rfl rfl ?_
          refine mi_wp_p (pc' := 81) (st' := [.ref 52, .int (Int32.ofInt (4 + ((wln (T (ty_K' σ (mi_sA σ 15 i) 0))) + 0)))]) rfl rfl rfl ?_
          refine ty_s_gr S rfl rfl rfl (List.mem_of_getElem? (i := 64) rfl) ?_
          refine mi_wp_p (pc' := 86) (st' := [.int (Int32.ofInt (ty_K' σ (mi_sA σ 15 i) 1)), .ref 9, .int (Int32.ofInt (4 + ((wln (T (ty_K' σ (mi_sA σ 15 i) 0))) + 0)))]) rfl rfl rfl ?_
          refine ty_s_ci rfl rfl rfl rfl rfl rfl (mi_cal_v2 (np := 1) (args := [.ref 9, .int (Int32.ofInt (ty_K' σ (mi_sA σ 15 i) 1))]) (rest := [.int (Int32.ofInt (4 + ((wln (T (ty_K' σ (mi_sA σ 15 i) 0))) + 0)))]) rfl rfl rfl rfl rfl (Nat.le_of_ble_eq_true rfl) rfl rfl (Nat.le_of_ble_eq_true rfl) (ty_rcS S (List.mem_of_getElem? (i := 5) rfl))) (Nat.le_of_ble_eq_true rfl) S (ty_noteOf (by omega) p1b) ?_
          intro x hh σu S f P
          obtain ⟨g1, g2⟩ := P
          rw [g2] at S
          rw [r1, m1] at g1
          rw [g1]
          clear g1 g2
          replace fr := mi_Fm_tr fr f
          refine mi_wp_p (pc' := 90) (st' := [.ref 52, .int (Int32.ofInt (wln (T (ty_K' σ (mi_sA σ 15 i) 1)))), .int (Int32.ofInt (4 + ((wln (T (ty_K' σ (mi_sA σ 15 i) 0))) + 0)))]) rfl rfl rfl ?_
          refine mi_wp_p (pc' := 91) (st' := [.int (Int32.ofInt (mi_sA σ 15 i)), .ref 52, .int (Int32.ofInt (wln (T (ty_K' σ (mi_sA σ 15 i) 1)))), .int (Int32.ofInt (4 + ((wln (T (ty_K' σ (mi_sA σ 15 i) 0))) + 0)))]) rfl rfl rfl ?_
          refine mi_wp_p (pc' := 93) (st' := [.int (Int32.ofInt 1), .int (Int32.ofInt (mi_sA σ 15 i)), .ref 52, .int (Int32.ofInt (wln (T (ty_K' σ (mi_sA σ 15 i) 1)))), .int (Int32.ofInt (4 + ((wln (T (ty_K' σ (mi_sA σ 15 i) 0))) + 0)))]) rfl rfl rfl ?_
          refine ty_s_ci rfl rfl rfl rfl rfl rfl (mi_cal_v2 (np := 2) (args := [.ref 52, .int (Int32.ofInt (mi_sA σ 15 i)), .int (Int32.ofInt 1)]) (rest := [.int (Int32.ofInt (wln (T (ty_K' σ (mi_sA σ 15 i) 1)))), .int (Int32.ofInt (4 + ((wln (T (ty_K' σ (mi_sA σ 15 i) 0))) + 0)))]) rfl rfl rfl rfl rfl (Nat.le_of_ble_eq_true rfl) rfl rfl (Nat.le_of_ble_eq_true rfl) (ty_rcS S (List.mem_of_getElem? (i := 27) rfl))) (Nat.le_of_ble_eq_true rfl) S (iw_T HT ZT GT n3 (by omega)) ?_
          intro x hh σu S f P
          obtain ⟨g1, g2⟩ := P
          rw [g2] at S
          rw [ht] at g1
          replace g1 : x = bki (pos 6 1) (T (ty_K' σ (mi_sA σ 15 i) 1)) := g1
          rw [g1]
          clear g1 g2
          replace fr := mi_Fm_tr fr f
          refine mi_s_if1 (t := 103) rfl rfl rfl (by unfold mi_R; omega) ?_ ?_
          · intro (c2 : (bki (pos 6 1) (T (ty_K' σ (mi_sA σ 15 i) 1))) = 0)
            refine mi_wp_p (pc' := 104) (st' := [.int (Int32.ofInt 0), .int (Int32.ofInt (wln (T (ty_K' σ (mi_sA σ 15 i) 1)))), .int (Int32.ofInt (4 + ((wln (T (ty_K' σ (mi_sA σ 15 i) 0))) + 0)))]) rfl rfl rfl ?_
            refine mi_s_add rfl rfl ?_
            refine mi_s_add rfl rfl ?_
            refine mi_wp_p (pc' := 108) (l' := [(4, .int (Int32.ofInt ((4 + ((wln (T (ty_K' σ (mi_sA σ 15 i) 0))) + 0)) + ((wln (T (ty_K' σ (mi_sA σ 15 i) 1))) + 0)))), (6, .int (Int32.ofInt (ty_K' σ (mi_sA σ 15 i) 1))), (5, .int (Int32.ofInt 1)), (3, .int (Int32.ofInt (mi_sA σ 15 i))), (2, .int (Int32.ofInt i)), (0, .ref 52), (1, .int (Int32.ofInt nd))]) (st' := []) rfl rfl rfl ?_
            refine mi_s_inc (l' := [(5, .int (Int32.ofInt 2)), (4, .int (Int32.ofInt ((4 + ((wln (T (ty_K' σ (mi_sA σ 15 i) 0))) + 0)) + ((wln (T (ty_K' σ (mi_sA σ 15 i) 1))) + 0)))), (6, .int (Int32.ofInt (ty_K' σ (mi_sA σ 15 i) 1))), (3, .int (Int32.ofInt (mi_sA σ 15 i))), (2, .int (Int32.ofInt i)), (0, .ref 52), (1, .int (Int32.ofInt nd))]) rfl rfl rfl (by decide) rfl ?_
            refine mi_wp_p (pc' := 55) rfl rfl rfl ?_
            refine mi_wp_p (pc' := 57) (st' := [.int (Int32.ofInt 2)]) rfl rfl rfl ?_
            refine mi_wp_p (pc' := 58) (st' := [.int (Int32.ofInt 3), .int (Int32.ofInt 2)]) rfl rfl rfl ?_
            refine mi_s_if2 (t := 114) rfl rfl rfl (by unfold mi_R; omega) (by unfold mi_R; omega) (fun hc_ => absurd (show 3 ≤ (2 : Int) from hc_) (by omega)) (fun _ => ?_)
            refine mi_wp_p (pc' := 62) (st' := [.ref 52]) rfl rfl rfl ?_
            refine ty_s_gr S rfl rfl rfl (List.mem_of_getElem? (i := 64) rfl) ?_
            refine mi_wp_p (pc' := 66) (st' := [.int (Int32.ofInt (mi_sA σ 15 i)), .ref 9]) rfl rfl rfl ?_
            refine mi_wp_p (pc' := 68) (st' := [.int (Int32.ofInt 2), .int (Int32.ofInt (mi_sA σ 15 i)), .ref 9]) rfl rfl rfl ?_
            refine ty_s_ci rfl rfl rfl rfl rfl rfl (mi_cal_v2 (np := 2) (args := [.ref 9, .int (Int32.ofInt (mi_sA σ 15 i)), .int (Int32.ofInt 2)]) (rest := []) rfl rfl rfl rfl rfl (Nat.le_of_ble_eq_true rfl) rfl rfl (Nat.le_of_ble_eq_true rfl) (ty_rcS S (List.mem_of_getElem? (i := 5) rfl))) (Nat.le_of_ble_eq_true rfl) S (ty_kidOf n1 n2 (by omega) (by rw [nr]; exact n4 2 (by omega) (by omega))) ?_
            intro x hh σu S f P
            obtain ⟨g1, g2⟩ := P
            rw [g2] at S
            rw [nr] at g1
            replace g1 : x = ty_K' σ (mi_sA σ 15 i) 2 := g1
            rw [z2] at g1
            rw [g1]
            clear g1 g2
            replace fr := mi_Fm_tr fr f
            refine mi_wp_p (pc' := 73) (l' := [(6, .int (Int32.ofInt 0)), (5, .int (Int32.ofInt 2)), (4, .int (Int32.ofInt ((4 + ((wln (T (ty_K' σ (mi_sA σ 15 i) 0))) + 0)) + ((wln (T (ty_K' σ (mi_sA σ 15 i) 1))) + 0)))), (3, .int (Int32.ofInt (mi_sA σ 15 i))), (2, .int (Int32.ofInt i)), (0, .ref 52), (1, .int (Int32.ofInt nd))]) (st' := []) rfl rfl rfl ?_
            refine mi_wp_p (pc' := 75) (st' := [.int (Int32.ofInt 0)]) rfl rfl rfl ?_
            refine mi_s_if1 (t := 108) rfl rfl rfl (by unfold mi_R; omega) (fun _ => ?_) (fun hc_ => absurd (show (0 : Int) = 0 by omega) hc_)
            refine mi_s_inc (l' := [(5, .int (Int32.ofInt 3)), (6, .int (Int32.ofInt 0)), (4, .int (Int32.ofInt ((4 + ((wln (T (ty_K' σ (mi_sA σ 15 i) 0))) + 0)) + ((wln (T (ty_K' σ (mi_sA σ 15 i) 1))) + 0)))), (3, .int (Int32.ofInt (mi_sA σ 15 i))), (2, .int (Int32.ofInt i)), (0, .ref 52), (1, .int (Int32.ofInt nd))]) rfl rfl rfl (by decide) rfl ?_
            refine mi_wp_p (pc' := 55) rfl rfl rfl ?_
            refine mi_wp_p (pc' := 57) (st' := [.int (Int32.ofInt 3)]) rfl rfl rfl ?_
            refine mi_wp_p (pc' := 58) (st' := [.int (Int32.ofInt 3), .int (Int32.ofInt 3)]) rfl rfl rfl ?_
            refine mi_s_if2 (t := 114) rfl rfl rfl (by unfold mi_R; omega) (by unfold mi_R; omega) (fun _ => ?_) (fun hc_ => absurd (show 3 ≤ (3 : Int) by omega) hc_)
            refine mi_wp_p (pc' := 115) (st' := [.ref 52]) rfl rfl rfl ?_
            refine ty_s_gr S rfl rfl rfl (List.mem_of_getElem? (i := 64) rfl) ?_
            refine mi_wp_p (pc' := 119) (st' := [.int (Int32.ofInt (mi_sA σ 15 i)), .ref 9]) rfl rfl rfl ?_
            refine mi_wp_p (pc' := 121) (st' := [.int (Int32.ofInt ((4 + ((wln (T (ty_K' σ (mi_sA σ 15 i) 0))) + 0)) + ((wln (T (ty_K' σ (mi_sA σ 15 i) 1))) + 0))), .int (Int32.ofInt (mi_sA σ 15 i)), .ref 9]) rfl rfl rfl ?_
            refine mi_wp_p (pc' := 122) (st' := [.ref 52, .int (Int32.ofInt ((4 + ((wln (T (ty_K' σ (mi_sA σ 15 i) 0))) + 0)) + ((wln (T (ty_K' σ (mi_sA σ 15 i) 1))) + 0))), .int (Int32.ofInt (mi_sA σ 15 i)), .ref 9]) rfl rfl rfl ?_
            refine mi_wp_p (pc' := 123) (st' := [.int (Int32.ofInt (mi_sA σ 15 i)), .ref 52, .int (Int32.ofInt ((4 + ((wln (T (ty_K' σ (mi_sA σ 15 i) 0))) + 0)) + ((wln (T (ty_K' σ (mi_sA σ 15 i) 1))) + 0))), .int (Int32.ofInt (mi_sA σ 15 i)), .ref 9]) rfl rfl rfl ?_
            refine ty_s_ci rfl rfl rfl rfl rfl rfl (mi_cal_v2 (np := 1) (args := [.ref 52, .int (Int32.ofInt (mi_sA σ 15 i))]) (rest := [.int (Int32.ofInt ((4 + ((wln (T (ty_K' σ (mi_sA σ 15 i) 0))) + 0)) + ((wln (T (ty_K' σ (mi_sA σ 15 i) 1))) + 0))), .int (Int32.ofInt (mi_sA σ 15 i)), .ref 9]) rfl rfl rfl rfl rfl (Nat.le_of_ble_eq_true rfl) rfl rfl (Nat.le_of_ble_eq_true rfl) (ty_rcS S (List.mem_of_getElem? (i := 27) rfl))) (Nat.le_of_ble_eq_true rfl) S (wr_blanks0 n1 n2 nr (by omega) (by omega)) ?_
            intro x hh σu S f P
            obtain ⟨e1, e2⟩ := P
            rw [e2] at S
            rw [e1]
            clear e1 e2
            replace fr := mi_Fm_tr fr f
            refine mi_s_add rfl rfl ?_
            refine mi_s_ldc (e := 1000000) rfl rfl rfl (by decide +kernel) ?_
            refine mi_s_mn rfl rfl rfl (Nat.le_of_ble_eq_true rfl) (by unfold mi_R; omega) (by unfold mi_R; omega) ?_
            refine ty_s_cv rfl rfl rfl rfl rfl rfl (mi_cal_v2 (np := 2) (args := [.ref 9, .int (Int32.ofInt (mi_sA σ 15 i)), .int (Int32.ofInt (min (((4 + ((wln (T (ty_K' σ (mi_sA σ 15 i) 0))) + 0)) + ((wln (T (ty_K' σ (mi_sA σ 15 i) 1))) + 0)) + 0) 1000000))]) (rest := []) rfl rfl rfl rfl rfl (Nat.le_of_ble_eq_true rfl) rfl rfl (Nat.le_of_ble_eq_true rfl) (ty_rcS S (List.mem_of_getElem? (i := 5) rfl))) (Nat.le_of_ble_eq_true rfl) S (ty_setNote (by omega) n2) ?_
            intro hh σ3 S f P
            rw [nr] at P
            subst P
            replace fr := mi_Fm_tr fr f
            refine mi_s_inc (l' := [(2, .int (Int32.ofInt (i + 1))), (5, .int (Int32.ofInt 3)), (6, .int (Int32.ofInt 0)), (4, .int (Int32.ofInt ((4 + ((wln (T (ty_K' σ (mi_sA σ 15 i) 0))) + 0)) + ((wln (T (ty_K' σ (mi_sA σ 15 i) 1))) + 0)))), (3, .int (Int32.ofInt (mi_sA σ 15 i))), (0, .ref 52), (1, .int (Int32.ofInt nd))]) rfl rfl rfl (by decide) rfl ?_
            refine mi_wp_p (pc' := 18) rfl rfl rfl ?_
            refine mi_wp_lw (l := [(2, .int (Int32.ofInt (i + 1))), (0, .ref 52), (1, .int (Int32.ofInt nd))]) (mi_lw_of (show List.Nodup [2, 0, 1] by decide) ⟨rfl, rfl, rfl, trivial⟩) ?_
            refine ih _ (by omega) _ (i + 1) rfl (by omega) (by omega) (ga_L_set E G hi0 hi ?_) _ S fr
            · show _ = wln (T (mi_sA σ 15 i))
              unfold wln at *
              rw [hw] <;> omega
          · intro (c2 : ¬ ((bki (pos 6 1) (T (ty_K' σ (mi_sA σ 15 i) 1))) = 0))
            refine mi_wp_p (pc' := 100) (st' := [.int (Int32.ofInt 2), .int (Int32.ofInt (wln (T (ty_K' σ (mi_sA σ 15 i) 1)))), .int (Int32.ofInt (4 + ((wln (T (ty_K' σ (mi_sA σ 15 i) 0))) + 0)))]) rfl rfl rfl ?_
            refine mi_wp_p (pc' := 104) rfl rfl rfl ?_
            refine mi_s_add rfl rfl ?_
            refine mi_s_add rfl rfl ?_
            refine mi_wp_p (pc' := 108) (l' := [(4, .int (Int32.ofInt ((4 + ((wln (T (ty_K' σ (mi_sA σ 15 i) 0))) + 0)) + ((wln (T (ty_K' σ (mi_sA σ 15 i) 1))) + 2)))), (6, .int (Int32.ofInt (ty_K' σ (mi_sA σ 15 i) 1))), (5, .int (Int32.ofInt 1)), (3, .int (Int32.ofInt (mi_sA σ 15 i))), (2, .int (Int32.ofInt i)), (0, .ref 52), (1, .int (Int32.ofInt nd))]) (st' := []) rfl rfl rfl ?_
            refine mi_s_inc (l' := [(5, .int (Int32.ofInt 2)), (4, .int (Int32.ofInt ((4 + ((wln (T (ty_K' σ (mi_sA σ 15 i) 0))) + 0)) + ((wln (T (ty_K' σ (mi_sA σ 15 i) 1))) + 2)))), (6, .int (Int32.ofInt (ty_K' σ (mi_sA σ 15 i) 1))), (3, .int (Int32.ofInt (mi_sA σ 15 i))), (2, .int (Int32.ofInt i)), (0, .ref 52), (1, .int (Int32.ofInt nd))]) rfl rfl rfl (by decide) rfl ?_
            refine mi_wp_p (pc' := 55) rfl rfl rfl ?_
            refine mi_wp_p (pc' := 57) (st' := [.int (Int32.ofInt 2)]) rfl rfl rfl ?_
            refine mi_wp_p (pc' := 58) (st' := [.int (Int32.ofInt 3), .int (Int32.ofInt 2)]) rfl rfl rfl ?_
            refine mi_s_if2 (t := 114) rfl rfl rfl (by unfold mi_R; omega) (by unfold mi_R; omega) (fun hc_ => absurd (show 3 ≤ (2 : Int) from hc_) (by omega)) (fun _ => ?_)
            refine mi_wp_p (pc' := 62) (st' := [.ref 52]) rfl rfl rfl ?_
            refine ty_s_gr S rfl rfl rfl (List.mem_of_getElem? (i := 64) rfl) ?_
            refine mi_wp_p (pc' := 66) (st' := [.int (Int32.ofInt (mi_sA σ 15 i)), .ref 9]) rfl rfl rfl ?_
            refine mi_wp_p (pc' := 68) (st' := [.int (Int32.ofInt 2), .int (Int32.ofInt (mi_sA σ 15 i)), .ref 9]) rfl rfl rfl ?_
            refine ty_s_ci rfl rfl rfl rfl rfl rfl (mi_cal_v2 (np := 2) (args := [.ref 9, .int (Int32.ofInt (mi_sA σ 15 i)), .int (Int32.ofInt 2)]) (rest := []) rfl rfl rfl rfl rfl (Nat.le_of_ble_eq_true rfl) rfl rfl (Nat.le_of_ble_eq_true rfl) (ty_rcS S (List.mem_of_getElem? (i := 5) rfl))) (Nat.le_of_ble_eq_true rfl) S (ty_kidOf n1 n2 (by omega) (by rw [nr]; exact n4 2 (by omega) (by omega))) ?_
            intro x hh σu S f P
            obtain ⟨g1, g2⟩ := P
            rw [g2] at S
            rw [nr] at g1
            replace g1 : x = ty_K' σ (mi_sA σ 15 i) 2 := g1
            rw [z2] at g1
            rw [g1]
            clear g1 g2
            replace fr := mi_Fm_tr fr f
            refine mi_wp_p (pc' := 73) (l' := [(6, .int (Int32.ofInt 0)), (5, .int (Int32.ofInt 2)), (4, .int (Int32.ofInt ((4 + ((wln (T (ty_K' σ (mi_sA σ 15 i) 0))) + 0)) + ((wln (T (ty_K' σ (mi_sA σ 15 i) 1))) + 2)))), (3, .int (Int32.ofInt (mi_sA σ 15 i))), (2, .int (Int32.ofInt i)), (0, .ref 52), (1, .int (Int32.ofInt nd))]) (st' := []) rfl rfl rfl ?_
            refine mi_wp_p (pc' := 75) (st' := [.int (Int32.ofInt 0)]) rfl rfl rfl ?_
            refine mi_s_if1 (t := 108) rfl rfl rfl (by unfold mi_R; omega) (fun _ => ?_) (fun hc_ => absurd (show (0 : Int) = 0 by omega) hc_)
            refine mi_s_inc (l' := [(5, .int (Int32.ofInt 3)), (6, .int (Int32.ofInt 0)), (4, .int (Int32.ofInt ((4 + ((wln (T (ty_K' σ (mi_sA σ 15 i) 0))) + 0)) + ((wln (T (ty_K' σ (mi_sA σ 15 i) 1))) + 2)))), (3, .int (Int32.ofInt (mi_sA σ 15 i))), (2, .int (Int32.ofInt i)), (0, .ref 52), (1, .int (Int32.ofInt nd))]) rfl rfl rfl (by decide) rfl ?_
            refine mi_wp_p (pc' := 55) rfl rfl rfl ?_
            refine mi_wp_p (pc' := 57) (st' := [.int (Int32.ofInt 3)]) rfl rfl rfl ?_
            refine mi_wp_p (pc' := 58) (st' := [.int (Int32.ofInt 3), .int (Int32.ofInt 3)]) rfl rfl rfl ?_
            refine mi_s_if2 (t := 114) rfl rfl rfl (by unfold mi_R; omega) (by unfold mi_R; omega) (fun _ => ?_) (fun hc_ => absurd (show 3 ≤ (3 : Int) by omega) hc_)
            refine mi_wp_p (pc' := 115) (st' := [.ref 52]) rfl rfl rfl ?_
            refine ty_s_gr S rfl rfl rfl (List.mem_of_getElem? (i := 64) rfl) ?_
            refine mi_wp_p (pc' := 119) (st' := [.int (Int32.ofInt (mi_sA σ 15 i)), .ref 9]) rfl rfl rfl ?_
            refine mi_wp_p (pc' := 121) (st' := [.int (Int32.ofInt ((4 + ((wln (T (ty_K' σ (mi_sA σ 15 i) 0))) + 0)) + ((wln (T (ty_K' σ (mi_sA σ 15 i) 1))) + 2))), .int (Int32.ofInt (mi_sA σ 15 i)), .ref 9]) rfl rfl rfl ?_
            refine mi_wp_p (pc' := 122) (st' := [.ref 52, .int (Int32.ofInt ((4 + ((wln (T (ty_K' σ (mi_sA σ 15 i) 0))) + 0)) + ((wln (T (ty_K' σ (mi_sA σ 15 i) 1))) + 2))), .int (Int32.ofInt (mi_sA σ 15 i)), .ref 9]) rfl rfl rfl ?_
            refine mi_wp_p (pc' := 123) (st' := [.int (Int32.ofInt (mi_sA σ 15 i)), .ref 52, .int (Int32.ofInt ((4 + ((wln (T (ty_K' σ (mi_sA σ 15 i) 0))) + 0)) + ((wln (T (ty_K' σ (mi_sA σ 15 i) 1))) + 2))), .int (Int32.ofInt (mi_sA σ 15 i)), .ref 9]) rfl rfl rfl ?_
            refine ty_s_ci rfl rfl rfl rfl rfl rfl (mi_cal_v2 (np := 1) (args := [.ref 52, .int (Int32.ofInt (mi_sA σ 15 i))]) (rest := [.int (Int32.ofInt ((4 + ((wln (T (ty_K' σ (mi_sA σ 15 i) 0))) + 0)) + ((wln (T (ty_K' σ (mi_sA σ 15 i) 1))) + 2))), .int (Int32.ofInt (mi_sA σ 15 i)), .ref 9]) rfl rfl rfl rfl rfl (Nat.le_of_ble_eq_true rfl) rfl rfl (Nat.le_of_ble_eq_true rfl) (ty_rcS S (List.mem_of_getElem? (i := 27) rfl))) (Nat.le_of_ble_eq_true rfl) S (wr_blanks0 n1 n2 nr (by omega) (by omega)) ?_
            intro x hh σu S f P
            obtain ⟨e1, e2⟩ := P
            rw [e2] at S
            rw [e1]
            clear e1 e2
            replace fr := mi_Fm_tr fr f
            refine mi_s_add rfl rfl ?_
            refine mi_s_ldc (e := 1000000) rfl rfl rfl (by decide +kernel) ?_
            refine mi_s_mn rfl rfl rfl (Nat.le_of_ble_eq_true rfl) (by unfold mi_R; omega) (by unfold mi_R; omega) ?_
            refine ty_s_cv rfl rfl rfl rfl rfl rfl (mi_cal_v2 (np := 2) (args := [.ref 9, .int (Int32.ofInt (mi_sA σ 15 i)), .int (Int32.ofInt (min (((4 + ((wln (T (ty_K' σ (mi_sA σ 15 i) 0))) + 0)) + ((wln (T (ty_K' σ (mi_sA σ 15 i) 1))) + 2)) + 0) 1000000))]) (rest := []) rfl rfl rfl rfl rfl (Nat.le_of_ble_eq_true rfl) rfl rfl (Nat.le_of_ble_eq_true rfl) (ty_rcS S (List.mem_of_getElem? (i := 5) rfl))) (Nat.le_of_ble_eq_true rfl) S (ty_setNote (by omega) n2) ?_
            intro hh σ3 S f P
            rw [nr] at P
            subst P
            replace fr := mi_Fm_tr fr f
            refine mi_s_inc (l' := [(2, .int (Int32.ofInt (i + 1))), (5, .int (Int32.ofInt 3)), (6, .int (Int32.ofInt 0)), (4, .int (Int32.ofInt ((4 + ((wln (T (ty_K' σ (mi_sA σ 15 i) 0))) + 0)) + ((wln (T (ty_K' σ (mi_sA σ 15 i) 1))) + 2)))), (3, .int (Int32.ofInt (mi_sA σ 15 i))), (0, .ref 52), (1, .int (Int32.ofInt nd))]) rfl rfl rfl (by decide) rfl ?_
            refine mi_wp_p (pc' := 18) rfl rfl rfl ?_
            refine mi_wp_lw (l := [(2, .int (Int32.ofInt (i + 1))), (0, .ref 52), (1, .int (Int32.ofInt nd))]) (mi_lw_of (show List.Nodup [2, 0, 1] by decide) ⟨rfl, rfl, rfl, trivial⟩) ?_
            refine ih _ (by omega) _ (i + 1) rfl (by omega) (by omega) (ga_L_set E G hi0 hi ?_) _ S fr
            · show _ = wln (T (mi_sA σ 15 i))
              unfold wln at *
              rw [hw] <;> omega
        · intro (c1 : ¬ ((bki (pos 6 0) (T (ty_K' σ (mi_sA σ 15 i) 0))) = 0))
          refine mi_wp_p (pc' := 100) (st' := [.int (Int32.ofInt 2), .int (Int32.ofInt (wln (T (ty_K' σ (mi_sA σ 15 i) 0)))), .int (Int32.ofInt 4)]) rfl rfl rfl ?_
          refine mi_wp_p (pc' := 104) rfl rfl rfl ?_
          refine mi_s_add rfl rfl ?_
          refine mi_s_add rfl rfl ?_
          refine mi_wp_p (pc' := 108) (l' := [(4, .int (Int32.ofInt (4 + ((wln (T (ty_K' σ (mi_sA σ 15 i) 0))) + 2)))), (6, .int (Int32.ofInt (ty_K' σ (mi_sA σ 15 i) 0))), (5, .int (Int32.ofInt 0)), (3, .int (Int32.ofInt (mi_sA σ 15 i))), (2, .int (Int32.ofInt i)), (0, .ref 52), (1, .int (Int32.ofInt nd))]) (st' := []) rfl rfl rfl ?_
          refine mi_s_inc (l' := [(5, .int (Int32.ofInt 1)), (4, .int (Int32.ofInt (4 + ((wln (T (ty_K' σ (mi_sA σ 15 i) 0))) + 2)))), (6, .int (Int32.ofInt (ty_K' σ (mi_sA σ 15 i) 0))), (3, .int (Int32.ofInt (mi_sA σ 15 i))), (2, .int (Int32.ofInt i)), (0, .ref 52), (1, .int (Int32.ofInt nd))]) rfl rfl rfl (by decide) rfl ?_
          refine mi_wp_p (pc' := 55) rfl rfl rfl ?_
          refine mi_wp_p (pc' := 57) (st' := [.int (Int32.ofInt 1)]) rfl rfl rfl ?_
          refine mi_wp_p (pc' := 58) (st' := [.int (Int32.ofInt 3), .int (Int32.ofInt 1)]) rfl rfl rfl ?_
          refine mi_s_if2 (t := 114) rfl rfl rfl (by unfold mi_R; omega) (by unfold mi_R; omega) (fun hc_ => absurd (show 3 ≤ (1 : Int) from hc_) (by omega)) (fun _ => ?_)
          refine mi_wp_p (pc' := 62) (st' := [.ref 52]) rfl rfl rfl ?_
          refine ty_s_gr S rfl rfl rfl (List.mem_of_getElem? (i := 64) rfl) ?_
          refine mi_wp_p (pc' := 66) (st' := [.int (Int32.ofInt (mi_sA σ 15 i)), .ref 9]) rfl rfl rfl ?_
          refine mi_wp_p (pc' := 68) (st' := [.int (Int32.ofInt 1), .int (Int32.ofInt (mi_sA σ 15 i)), .ref 9]) rfl rfl rfl ?_
          refine ty_s_ci rfl rfl rfl rfl rfl rfl (mi_cal_v2 (np := 2) (args := [.ref 9, .int (Int32.ofInt (mi_sA σ 15 i)), .int (Int32.ofInt 1)]) (rest := []) rfl rfl rfl rfl rfl (Nat.le_of_ble_eq_true rfl) rfl rfl (Nat.le_of_ble_eq_true rfl) (ty_rcS S (List.mem_of_getElem? (i := 5) rfl))) (Nat.le_of_ble_eq_true rfl) S (ty_kidOf n1 n2 (by omega) (by rw [nr]; exact n4 1 (by omega) (by omega))) ?_
          intro x hh σu S f P
          obtain ⟨g1, g2⟩ := P
          rw [g2] at S
          rw [nr] at g1
          replace g1 : x = ty_K' σ (mi_sA σ 15 i) 1 := g1
          rw [g1]
          clear g1 g2
          replace fr := mi_Fm_tr fr f
          refine mi_wp_p (pc' := 73) (l' := [(6, .int (Int32.ofInt (ty_K' σ (mi_sA σ 15 i) 1))), (5, .int (Int32.ofInt 1)), (4, .int (Int32.ofInt (4 + ((wln (T (ty_K' σ (mi_sA σ 15 i) 0))) + 2)))), (3, .int (Int32.ofInt (mi_sA σ 15 i))), (2, .int (Int32.ofInt i)), (0, .ref 52), (1, .int (Int32.ofInt nd))]) (st' := []) rfl rfl rfl ?_
          refine mi_wp_p (pc' := 75) (st' := [.int (Int32.ofInt (ty_K' σ (mi_sA σ 15 i) 1))]) rfl rfl rfl ?_
          refine mi_s_if1 (t := 108) rfl rfl rfl (by unfold mi_R; omega) (fun hc_ => absurd (show (ty_K' σ (mi_sA σ 15 i) 1) = 0 from hc_) (by omega)) (fun _ => ?_)
          refine mi_wp_p (pc' := 80) (st' := [.int (Int32.ofInt (4 + ((wln (T (ty_K' σ (mi_sA σ 15 i) 0))) + 2)))]) rfl rfl rfl ?_
          refine mi_wp_p (pc' := 81) (st' := [.ref 52, .int (Int32.ofInt (4 + ((wln (T (ty_K' σ (mi_sA σ 15 i) 0))) + 2)))]) rfl rfl rfl ?_
          refine ty_s_gr S rfl rfl rfl (List.mem_of_getElem? (i := 64) rfl) ?_
          refine mi_wp_p (pc' := 86) (st' := [.int (Int32.ofInt (ty_K' σ (mi_sA σ 15 i) 1)), .ref 9, .int (Int32.ofInt (4 + ((wln (T (ty_K' σ (mi_sA σ 15 i) 0))) + 2)))]) rfl rfl rfl ?_
          refine ty_s_ci rfl rfl rfl rfl rfl rfl (mi_cal_v2 (np := 1) (args := [.ref 9, .int (Int32.ofInt (ty_K' σ (mi_sA σ 15 i) 1))]) (rest := [.int (Int32.ofInt (4 + ((wln (T (ty_K' σ (mi_sA σ 15 i) 0))) + 2)))]) rfl rfl rfl rfl rfl (Nat.le_of_ble_eq_true rfl) rfl rfl (Nat.le_of_ble_eq_true rfl) (ty_rcS S (List.mem_of_getElem? (i := 5) rfl))) (Nat.le_of_ble_eq_true rfl) S (ty_noteOf (by omega) p1b) ?_
          intro x hh σu S f P
          obtain ⟨g1, g2⟩ := P
          rw [g2] at S
          rw [r1, m1] at g1
          rw [g1]
          clear g1 g2
          replace fr := mi_Fm_tr fr f
          refine mi_wp_p (pc' := 90) (st' := [.ref 52, .int (Int32.ofInt (wln (T (ty_K' σ (mi_sA σ 15 i) 1)))), .int (Int32.ofInt (4 + ((wln (T (ty_K' σ (mi_sA σ 15 i) 0))) + 2)))]) rfl rfl rfl ?_
          refine mi_wp_p (pc' := 91) (st' := [.int (Int32.ofInt (mi_sA σ 15 i)), .ref 52, .int (Int32.ofInt (wln (T (ty_K' σ (mi_sA σ 15 i) 1)))), .int (Int32.ofInt (4 + ((wln (T (ty_K' σ (mi_sA σ 15 i) 0))) + 2)))]) rfl rfl rfl ?_
          refine mi_wp_p (pc' := 93) (st' := [.int (Int32.ofInt 1), .int (Int32.ofInt (mi_sA σ 15 i)), .ref 52, .int (Int32.ofInt (wln (T (ty_K' σ (mi_sA σ 15 i) 1)))), .int (Int32.ofInt (4 + ((wln (T (ty_K' σ (mi_sA σ 15 i) 0))) + 2)))]) rfl rfl rfl ?_
          refine ty_s_ci rfl rfl rfl rfl rfl rfl (mi_cal_v2 (np := 2) (args := [.ref 52, .int (Int32.ofInt (mi_sA σ 15 i)), .int (Int32.ofInt 1)]) (rest := [.int (Int32.ofInt (wln (T (ty_K' σ (mi_sA σ 15 i) 1)))), .int (Int32.ofInt (4 + ((wln (T (ty_K' σ (mi_sA σ 15 i) 0))) + 2)))]) rfl rfl rfl rfl rfl (Nat.le_of_ble_eq_true rfl) rfl rfl (Nat.le_of_ble_eq_true rfl) (ty_rcS S (List.mem_of_getElem? (i := 27) rfl))) (Nat.le_of_ble_eq_true rfl) S (iw_T HT ZT GT n3 (by omega)) ?_
          intro x hh σu S f P
          obtain ⟨g1, g2⟩ := P
          rw [g2] at S
          rw [ht] at g1
          replace g1 : x = bki (pos 6 1) (T (ty_K' σ (mi_sA σ 15 i) 1)) := g1
          rw [g1]
          clear g1 g2
          replace fr := mi_Fm_tr fr f
          refine mi_s_if1 (t := 103) rfl rfl rfl (by unfold mi_R; omega) ?_ ?_
          · intro (c3 : (bki (pos 6 1) (T (ty_K' σ (mi_sA σ 15 i) 1))) = 0)
            refine mi_wp_p (pc' := 104) (st' := [.int (Int32.ofInt 0), .int (Int32.ofInt (wln (T (ty_K' σ (mi_sA σ 15 i) 1)))), .int (Int32.ofInt (4 + ((wln (T (ty_K' σ (mi_sA σ 15 i) 0))) + 2)))]) rfl rfl rfl ?_
            refine mi_s_add rfl rfl ?_
            refine mi_s_add rfl rfl ?_
            refine mi_wp_p (pc' := 108) (l' := [(4, .int (Int32.ofInt ((4 + ((wln (T (ty_K' σ (mi_sA σ 15 i) 0))) + 2)) + ((wln (T (ty_K' σ (mi_sA σ 15 i) 1))) + 0)))), (6, .int (Int32.ofInt (ty_K' σ (mi_sA σ 15 i) 1))), (5, .int (Int32.ofInt 1)), (3, .int (Int32.ofInt (mi_sA σ 15 i))), (2, .int (Int32.ofInt i)), (0, .ref 52), (1, .int (Int32.ofInt nd))]) (st' := []) rfl rfl rfl ?_
            refine mi_s_inc (l' := [(5, .int (Int32.ofInt 2)), (4, .int (Int32.ofInt ((4 + ((wln (T (ty_K' σ (mi_sA σ 15 i) 0))) + 2)) + ((wln (T (ty_K' σ (mi_sA σ 15 i) 1))) + 0)))), (6, .int (Int32.ofInt (ty_K' σ (mi_sA σ 15 i) 1))), (3, .int (Int32.ofInt (mi_sA σ 15 i))), (2, .int (Int32.ofInt i)), (0, .ref 52), (1, .int (Int32.ofInt nd))]) rfl rfl rfl (by decide) rfl ?_
            refine mi_wp_p (pc' := 55) rfl rfl rfl ?_
            refine mi_wp_p (pc' := 57) (st' := [.int (Int32.ofInt 2)]) rfl rfl rfl ?_
            refine mi_wp_p (pc' := 58) (st' := [.int (Int32.ofInt 3), .int (Int32.ofInt 2)]) rfl rfl rfl ?_
            refine mi_s_if2 (t := 114) rfl rfl rfl (by unfold mi_R; omega) (by unfold mi_R; omega) (fun hc_ => absurd (show 3 ≤ (2 : Int) from hc_) (by omega)) (fun _ => ?_)
            refine mi_wp_p (pc' := 62) (st' := [.ref 52]) rfl rfl rfl ?_
            refine ty_s_gr S rfl rfl rfl (List.mem_of_getElem? (i := 64) rfl) ?_
            refine mi_wp_p (pc' := 66) (st' := [.int (Int32.ofInt (mi_sA σ 15 i)), .ref 9]) rfl rfl rfl ?_
            refine mi_wp_p (pc' := 68) (st' := [.int (Int32.ofInt 2), .int (Int32.ofInt (mi_sA σ 15 i)), .ref 9]) rfl rfl rfl ?_
            refine ty_s_ci rfl rfl rfl rfl rfl rfl (mi_cal_v2 (np := 2) (args := [.ref 9, .int (Int32.ofInt (mi_sA σ 15 i)), .int (Int32.ofInt 2)]) (rest := []) rfl rfl rfl rfl rfl (Nat.le_of_ble_eq_true rfl) rfl rfl (Nat.le_of_ble_eq_true rfl) (ty_rcS S (List.mem_of_getElem? (i := 5) rfl))) (Nat.le_of_ble_eq_true rfl) S (ty_kidOf n1 n2 (by omega) (by rw [nr]; exact n4 2 (by omega) (by omega))) ?_
            intro x hh σu S f P
            obtain ⟨g1, g2⟩ := P
            rw [g2] at S
            rw [nr] at g1
            replace g1 : x = ty_K' σ (mi_sA σ 15 i) 2 := g1
            rw [z2] at g1
            rw [g1]
            clear g1 g2
            replace fr := mi_Fm_tr fr f
            refine mi_wp_p (pc' := 73) (l' := [(6, .int (Int32.ofInt 0)), (5, .int (Int32.ofInt 2)), (4, .int (Int32.ofInt ((4 + ((wln (T (ty_K' σ (mi_sA σ 15 i) 0))) + 2)) + ((wln (T (ty_K' σ (mi_sA σ 15 i) 1))) + 0)))), (3, .int (Int32.ofInt (mi_sA σ 15 i))), (2, .int (Int32.ofInt i)), (0, .ref 52), (1, .int (Int32.ofInt nd))]) (st' := []) rfl rfl rfl ?_
            refine mi_wp_p (pc' := 75) (st' := [.int (Int32.ofInt 0)]) rfl rfl rfl ?_
            refine mi_s_if1 (t := 108) rfl rfl rfl (by unfold mi_R; omega) (fun _ => ?_) (fun hc_ => absurd (show (0 : Int) = 0 by omega) hc_)
            refine mi_s_inc (l' := [(5, .int (Int32.ofInt 3)), (6, .int (Int32.ofInt 0)), (4, .int (Int32.ofInt ((4 + ((wln (T (ty_K' σ (mi_sA σ 15 i) 0))) + 2)) + ((wln (T (ty_K' σ (mi_sA σ 15 i) 1))) + 0)))), (3, .int (Int32.ofInt (mi_sA σ 15 i))), (2, .int (Int32.ofInt i)), (0, .ref 52), (1, .int (Int32.ofInt nd))]) rfl rfl rfl (by decide) rfl ?_
            refine mi_wp_p (pc' := 55) rfl rfl rfl ?_
            refine mi_wp_p (pc' := 57) (st' := [.int (Int32.ofInt 3)]) rfl rfl rfl ?_
            refine mi_wp_p (pc' := 58) (st' := [.int (Int32.ofInt 3), .int (Int32.ofInt 3)]) rfl rfl rfl ?_
            refine mi_s_if2 (t := 114) rfl rfl rfl (by unfold mi_R; omega) (by unfold mi_R; omega) (fun _ => ?_) (fun hc_ => absurd (show 3 ≤ (3 : Int) by omega) hc_)
            refine mi_wp_p (pc' := 115) (st' := [.ref 52]) rfl rfl rfl ?_
            refine ty_s_gr S rfl rfl rfl (List.mem_of_getElem? (i := 64) rfl) ?_
            refine mi_wp_p (pc' := 119) (st' := [.int (Int32.ofInt (mi_sA σ 15 i)), .ref 9]) rfl rfl rfl ?_
            refine mi_wp_p (pc' := 121) (st' := [.int (Int32.ofInt ((4 + ((wln (T (ty_K' σ (mi_sA σ 15 i) 0))) + 2)) + ((wln (T (ty_K' σ (mi_sA σ 15 i) 1))) + 0))), .int (Int32.ofInt (mi_sA σ 15 i)), .ref 9]) rfl rfl rfl ?_
            refine mi_wp_p (pc' := 122) (st' := [.ref 52, .int (Int32.ofInt ((4 + ((wln (T (ty_K' σ (mi_sA σ 15 i) 0))) + 2)) + ((wln (T (ty_K' σ (mi_sA σ 15 i) 1))) + 0))), .int (Int32.ofInt (mi_sA σ 15 i)), .ref 9]) rfl rfl rfl ?_
            refine mi_wp_p (pc' := 123) (st' := [.int (Int32.ofInt (mi_sA σ 15 i)), .ref 52, .int (Int32.ofInt ((4 + ((wln (T (ty_K' σ (mi_sA σ 15 i) 0))) + 2)) + ((wln (T (ty_K' σ (mi_sA σ 15 i) 1))) + 0))), .int (Int32.ofInt (mi_sA σ 15 i)), .ref 9]) rfl rfl rfl ?_
            refine ty_s_ci rfl rfl rfl rfl rfl rfl (mi_cal_v2 (np := 1) (args := [.ref 52, .int (Int32.ofInt (mi_sA σ 15 i))]) (rest := [.int (Int32.ofInt ((4 + ((wln (T (ty_K' σ (mi_sA σ 15 i) 0))) + 2)) + ((wln (T (ty_K' σ (mi_sA σ 15 i) 1))) + 0))), .int (Int32.ofInt (mi_sA σ 15 i)), .ref 9]) rfl rfl rfl rfl rfl (Nat.le_of_ble_eq_true rfl) rfl rfl (Nat.le_of_ble_eq_true rfl) (ty_rcS S (List.mem_of_getElem? (i := 27) rfl))) (Nat.le_of_ble_eq_true rfl) S (wr_blanks0 n1 n2 nr (by omega) (by omega)) ?_
            intro x hh σu S f P
            obtain ⟨e1, e2⟩ := P
            rw [e2] at S
            rw [e1]
            clear e1 e2
            replace fr := mi_Fm_tr fr f
            refine mi_s_add rfl rfl ?_
            refine mi_s_ldc (e := 1000000) rfl rfl rfl (by decide +kernel) ?_
            refine mi_s_mn rfl rfl rfl (Nat.le_of_ble_eq_true rfl) (by unfold mi_R; omega) (by unfold mi_R; omega) ?_
            refine ty_s_cv rfl rfl rfl rfl rfl rfl (mi_cal_v2 (np := 2) (args := [.ref 9, .int (Int32.ofInt (mi_sA σ 15 i)), .int (Int32.ofInt (min (((4 + ((wln (T (ty_K' σ (mi_sA σ 15 i) 0))) + 2)) + ((wln (T (ty_K' σ (mi_sA σ 15 i) 1))) + 0)) + 0) 1000000))]) (rest := []) rfl rfl rfl rfl rfl (Nat.le_of_ble_eq_true rfl) rfl rfl (Nat.le_of_ble_eq_true rfl) (ty_rcS S (List.mem_of_getElem? (i := 5) rfl))) (Nat.le_of_ble_eq_true rfl) S (ty_setNote (by omega) n2) ?_
            intro hh σ3 S f P
            rw [nr] at P
            subst P
            replace fr := mi_Fm_tr fr f
            refine mi_s_inc (l' := [(2, .int (Int32.ofInt (i + 1))), (5, .int (Int32.ofInt 3)), (6, .int (Int32.ofInt 0)), (4, .int (Int32.ofInt ((4 + ((wln (T (ty_K' σ (mi_sA σ 15 i) 0))) + 2)) + ((wln (T (ty_K' σ (mi_sA σ 15 i) 1))) + 0)))), (3, .int (Int32.ofInt (mi_sA σ 15 i))), (0, .ref 52), (1, .int (Int32.ofInt nd))]) rfl rfl rfl (by decide) rfl ?_
            refine mi_wp_p (pc' := 18) rfl rfl rfl ?_
            refine mi_wp_lw (l := [(2, .int (Int32.ofInt (i + 1))), (0, .ref 52), (1, .int (Int32.ofInt nd))]) (mi_lw_of (show List.Nodup [2, 0, 1] by decide) ⟨rfl, rfl, rfl, trivial⟩) ?_
            refine ih _ (by omega) _ (i + 1) rfl (by omega) (by omega) (ga_L_set E G hi0 hi ?_) _ S fr
            · show _ = wln (T (mi_sA σ 15 i))
              unfold wln at *
              rw [hw] <;> omega
          · intro (c3 : ¬ ((bki (pos 6 1) (T (ty_K' σ (mi_sA σ 15 i) 1))) = 0))
            refine mi_wp_p (pc' := 100) (st' := [.int (Int32.ofInt 2), .int (Int32.ofInt (wln (T (ty_K' σ (mi_sA σ 15 i) 1)))), .int (Int32.ofInt (4 + ((wln (T (ty_K' σ (mi_sA σ 15 i) 0))) + 2)))]) rfl rfl rfl ?_
            refine mi_wp_p (pc' := 104) rfl rfl rfl ?_
            refine mi_s_add rfl rfl ?_
            refine mi_s_add rfl rfl ?_
            refine mi_wp_p (pc' := 108) (l' := [(4, .int (Int32.ofInt ((4 + ((wln (T (ty_K' σ (mi_sA σ 15 i) 0))) + 2)) + ((wln (T (ty_K' σ (mi_sA σ 15 i) 1))) + 2)))), (6, .int (Int32.ofInt (ty_K' σ (mi_sA σ 15 i) 1))), (5, .int (Int32.ofInt 1)), (3, .int (Int32.ofInt (mi_sA σ 15 i))), (2, .int (Int32.ofInt i)), (0, .ref 52), (1, .int (Int32.ofInt nd))]) (st' := []) rfl rfl rfl ?_
            refine mi_s_inc (l' := [(5, .int (Int32.ofInt 2)), (4, .int (Int32.ofInt ((4 + ((wln (T (ty_K' σ (mi_sA σ 15 i) 0))) + 2)) + ((wln (T (ty_K' σ (mi_sA σ 15 i) 1))) + 2)))), (6, .int (Int32.ofInt (ty_K' σ (mi_sA σ 15 i) 1))), (3, .int (Int32.ofInt (mi_sA σ 15 i))), (2, .int (Int32.ofInt i)), (0, .ref 52), (1, .int (Int32.ofInt nd))]) rfl rfl rfl (by decide) rfl ?_
            refine mi_wp_p (pc' := 55) rfl rfl rfl ?_
            refine mi_wp_p (pc' := 57) (st' := [.int (Int32.ofInt 2)]) rfl rfl rfl ?_
            refine mi_wp_p (pc' := 58) (st' := [.int (Int32.ofInt 3), .int (Int32.ofInt 2)]) rfl rfl rfl ?_
            refine mi_s_if2 (t := 114) rfl rfl rfl (by unfold mi_R; omega) (by unfold mi_R; omega) (fun hc_ => absurd (show 3 ≤ (2 : Int) from hc_) (by omega)) (fun _ => ?_)
            refine mi_wp_p (pc' := 62) (st' := [.ref 52]) rfl rfl rfl ?_
            refine ty_s_gr S rfl rfl rfl (List.mem_of_getElem? (i := 64) rfl) ?_
            refine mi_wp_p (pc' := 66) (st' := [.int (Int32.ofInt (mi_sA σ 15 i)), .ref 9]) rfl rfl rfl ?_
            refine mi_wp_p (pc' := 68) (st' := [.int (Int32.ofInt 2), .int (Int32.ofInt (mi_sA σ 15 i)), .ref 9]) rfl rfl rfl ?_
            refine ty_s_ci rfl rfl rfl rfl rfl rfl (mi_cal_v2 (np := 2) (args := [.ref 9, .int (Int32.ofInt (mi_sA σ 15 i)), .int (Int32.ofInt 2)]) (rest := []) rfl rfl rfl rfl rfl (Nat.le_of_ble_eq_true rfl) rfl rfl (Nat.le_of_ble_eq_true rfl) (ty_rcS S (List.mem_of_getElem? (i := 5) rfl))) (Nat.le_of_ble_eq_true rfl) S (ty_kidOf n1 n2 (by omega) (by rw [nr]; exact n4 2 (by omega) (by omega))) ?_
            intro x hh σu S f P
            obtain ⟨g1, g2⟩ := P
            rw [g2] at S
            rw [nr] at g1
            replace g1 : x = ty_K' σ (mi_sA σ 15 i) 2 := g1
            rw [z2] at g1
            rw [g1]
            clear g1 g2
            replace fr := mi_Fm_tr fr f
            refine mi_wp_p (pc' := 73) (l' := [(6, .int (Int32.ofInt 0)), (5, .int (Int32.ofInt 2)), (4, .int (Int32.ofInt ((4 + ((wln (T (ty_K' σ (mi_sA σ 15 i) 0))) + 2)) + ((wln (T (ty_K' σ (mi_sA σ 15 i) 1))) + 2)))), (3, .int (Int32.ofInt (mi_sA σ 15 i))), (2, .int (Int32.ofInt i)), (0, .ref 52), (1, .int (Int32.ofInt nd))]) (st' := []) rfl rfl rfl ?_
            refine mi_wp_p (pc' := 75) (st' := [.int (Int32.ofInt 0)]) rfl rfl rfl ?_
            refine mi_s_if1 (t := 108) rfl rfl rfl (by unfold mi_R; omega) (fun _ => ?_) (fun hc_ => absurd (show (0 : Int) = 0 by omega) hc_)
            refine mi_s_inc (l' := [(5, .int (Int32.ofInt 3)), (6, .int (Int32.ofInt 0)), (4, .int (Int32.ofInt ((4 + ((wln (T (ty_K' σ (mi_sA σ 15 i) 0))) + 2)) + ((wln (T (ty_K' σ (mi_sA σ 15 i) 1))) + 2)))), (3, .int (Int32.ofInt (mi_sA σ 15 i))), (2, .int (Int32.ofInt i)), (0, .ref 52), (1, .int (Int32.ofInt nd))]) rfl rfl rfl (by decide) rfl ?_
            refine mi_wp_p (pc' := 55) rfl rfl rfl ?_
            refine mi_wp_p (pc' := 57) (st' := [.int (Int32.ofInt 3)]) rfl rfl rfl ?_
            refine mi_wp_p (pc' := 58) (st' := [.int (Int32.ofInt 3), .int (Int32.ofInt 3)]) rfl rfl rfl ?_
            refine mi_s_if2 (t := 114) rfl rfl rfl (by unfold mi_R; omega) (by unfold mi_R; omega) (fun _ => ?_) (fun hc_ => absurd (show 3 ≤ (3 : Int) by omega) hc_)
            refine mi_wp_p (pc' := 115) (st' := [.ref 52]) rfl rfl rfl ?_
            refine ty_s_gr S rfl rfl rfl (List.mem_of_getElem? (i := 64) rfl) ?_
            refine mi_wp_p (pc' := 119) (st' := [.int (Int32.ofInt (mi_sA σ 15 i)), .ref 9]) rfl rfl rfl ?_
            refine mi_wp_p (pc' := 121) (st' := [.int (Int32.ofInt ((4 + ((wln (T (ty_K' σ (mi_sA σ 15 i) 0))) + 2)) + ((wln (T (ty_K' σ (mi_sA σ 15 i) 1))) + 2))), .int (Int32.ofInt (mi_sA σ 15 i)), .ref 9]) rfl rfl rfl ?_
            refine mi_wp_p (pc' := 122) (st' := [.ref 52, .int (Int32.ofInt ((4 + ((wln (T (ty_K' σ (mi_sA σ 15 i) 0))) + 2)) + ((wln (T (ty_K' σ (mi_sA σ 15 i) 1))) + 2))), .int (Int32.ofInt (mi_sA σ 15 i)), .ref 9]) rfl rfl rfl ?_
            refine mi_wp_p (pc' := 123) (st' := [.int (Int32.ofInt (mi_sA σ 15 i)), .ref 52, .int (Int32.ofInt ((4 + ((wln (T (ty_K' σ (mi_sA σ 15 i) 0))) + 2)) + ((wln (T (ty_K' σ (mi_sA σ 15 i) 1))) + 2))), .int (Int32.ofInt (mi_sA σ 15 i)), .ref 9]) rfl rfl rfl ?_
            refine ty_s_ci rfl rfl rfl rfl rfl rfl (mi_cal_v2 (np := 1) (args := [.ref 52, .int (Int32.ofInt (mi_sA σ 15 i))]) (rest := [.int (Int32.ofInt ((4 + ((wln (T (ty_K' σ (mi_sA σ 15 i) 0))) + 2)) + ((wln (T (ty_K' σ (mi_sA σ 15 i) 1))) + 2))), .int (Int32.ofInt (mi_sA σ 15 i)), .ref 9]) rfl rfl rfl rfl rfl (Nat.le_of_ble_eq_true rfl) rfl rfl (Nat.le_of_ble_eq_true rfl) (ty_rcS S (List.mem_of_getElem? (i := 27) rfl))) (Nat.le_of_ble_eq_true rfl) S (wr_blanks0 n1 n2 nr (by omega) (by omega)) ?_
            intro x hh σu S f P
            obtain ⟨e1, e2⟩ := P
            rw [e2] at S
            rw [e1]
            clear e1 e2
            replace fr := mi_Fm_tr fr f
            refine mi_s_add rfl rfl ?_
            refine mi_s_ldc (e := 1000000) rfl rfl rfl (by decide +kernel) ?_
            refine mi_s_mn rfl rfl rfl (Nat.le_of_ble_eq_true rfl) (by unfold mi_R; omega) (by unfold mi_R; omega) ?_
            refine ty_s_cv rfl rfl rfl rfl rfl rfl (mi_cal_v2 (np := 2) (args := [.ref 9, .int (Int32.ofInt (mi_sA σ 15 i)), .int (Int32.ofInt (min (((4 + ((wln (T (ty_K' σ (mi_sA σ 15 i) 0))) + 2)) + ((wln (T (ty_K' σ (mi_sA σ 15 i) 1))) + 2)) + 0) 1000000))]) (rest := []) rfl rfl rfl rfl rfl (Nat.le_of_ble_eq_true rfl) rfl rfl (Nat.le_of_ble_eq_true rfl) (ty_rcS S (List.mem_of_getElem? (i := 5) rfl))) (Nat.le_of_ble_eq_true rfl) S (ty_setNote (by omega) n2) ?_
            intro hh σ3 S f P
            rw [nr] at P
            subst P
            replace fr := mi_Fm_tr fr f
            refine mi_s_inc (l' := [(2, .int (Int32.ofInt (i + 1))), (5, .int (Int32.ofInt 3)), (6, .int (Int32.ofInt 0)), (4, .int (Int32.ofInt ((4 + ((wln (T (ty_K' σ (mi_sA σ 15 i) 0))) + 2)) + ((wln (T (ty_K' σ (mi_sA σ 15 i) 1))) + 2)))), (3, .int (Int32.ofInt (mi_sA σ 15 i))), (0, .ref 52), (1, .int (Int32.ofInt nd))]) rfl rfl rfl (by decide) rfl ?_
            refine mi_wp_p (pc' := 18) rfl rfl rfl ?_
            refine mi_wp_lw (l := [(2, .int (Int32.ofInt (i + 1))), (0, .ref 52), (1, .int (Int32.ofInt nd))]) (mi_lw_of (show List.Nodup [2, 0, 1] by decide) ⟨rfl, rfl, rfl, trivial⟩) ?_
            refine ih _ (by omega) _ (i + 1) rfl (by omega) (by omega) (ga_L_set E G hi0 hi ?_) _ S fr
            · show _ = wln (T (mi_sA σ 15 i))
              unfold wln at *
              rw [hw] <;> omega
      · have z1 : ty_K' σ (mi_sA σ 15 i) 1 = 0 := (c7 1 (by omega) (by omega)).2 (by rw [ht]; decide)
        have z2 : ty_K' σ (mi_sA σ 15 i) 2 = 0 := (c7 2 (by omega) (by omega)).2 (by rw [ht]; decide)
        have s0 : Sx (ty_K' σ (mi_sA σ 15 i) 0) := kid_T HT n3 (by omega) (by rw [ht]; decide) (by omega)
        obtain ⟨⟨p0, p0b⟩, r0, -⟩ := HT.2 _ s0
        rw [if_neg (by omega)] at m0
        have w0 := wln_0 (T (ty_K' σ (mi_sA σ 15 i) 0))
        have b0 := bki_01 (pos 9 0) (T (ty_K' σ (mi_sA σ 15 i) 0))
        have u0 : wln (T (ty_K' σ (mi_sA σ 15 i) 0)) ≤ 1000000 := by unfold wln; omega
        have hw : wl (T (mi_sA σ 15 i)) = 5 + (wl (T (ty_K' σ (mi_sA σ 15 i) 0)) + 2 * bki (pos 9 0) (T (ty_K' σ (mi_sA σ 15 i) 0))) := by
          rw [c6 (by omega) (by omega), wl_tn, ht]
          rfl
        refine mi_wp_p (pc' := 19) (st' := [.int (Int32.ofInt i)]) rfl rfl rfl ?_
        refine mi_wp_p (pc' := 20) (st' := [.ref 52, .int (Int32.ofInt i)]) rfl rfl rfl ?_
        refine ty_s_gr S rfl rfl rfl (List.mem_of_getElem? (i := 64) rfl) ?_
        refine ty_s_ci rfl rfl rfl rfl rfl rfl (mi_cal_v2 (np := 0) (args := [.ref 9]) (rest := [.int (Int32.ofInt i)]) rfl rfl rfl rfl rfl (Nat.le_of_ble_eq_true rfl) rfl rfl (Nat.le_of_ble_eq_true rfl) (ty_rcS S (List.mem_of_getElem? (i := 5) rfl))) (Nat.le_of_ble_eq_true rfl) S ty_gathered ?_
        intro x hh σu S f P
        obtain ⟨e1, e2⟩ := P
        rw [e2] at S
        rw [e1]
        clear e1 e2
        replace fr := mi_Fm_tr fr f
        refine mi_s_if2 (t := 141) rfl rfl rfl (by unfold mi_R; omega) (by unfold mi_R; omega) (fun hc_ => absurd (show (mi_sF σ 9 10) ≤ i from hc_) (by omega)) (fun _ => ?_)
        refine mi_wp_p (pc' := 30) (st' := [.ref 52]) rfl rfl rfl ?_
        refine ty_s_gr S rfl rfl rfl (List.mem_of_getElem? (i := 64) rfl) ?_
        refine mi_wp_p (pc' := 34) (st' := [.int (Int32.ofInt i), .ref 9]) rfl rfl rfl ?_
        refine ty_s_ci rfl rfl rfl rfl rfl rfl (mi_cal_v2 (np := 1) (args := [.ref 9, .int (Int32.ofInt i)]) (rest := []) rfl rfl rfl rfl rfl (Nat.le_of_ble_eq_true rfl) rfl rfl (Nat.le_of_ble_eq_true rfl) (ty_rcS S (List.mem_of_getElem? (i := 5) rfl))) (Nat.le_of_ble_eq_true rfl) S (ty_gatheredAt hi0 hi (by omega)) ?_
        intro x hh σu S f P
        obtain ⟨e1, e2⟩ := P
        rw [e2] at S
        rw [e1]
        clear e1 e2
        replace fr := mi_Fm_tr fr f
        refine mi_wp_p (pc' := 38) (l' := [(3, .int (Int32.ofInt (mi_sA σ 15 i))), (2, .int (Int32.ofInt i)), (0, .ref 52), (1, .int (Int32.ofInt nd))]) (st' := []) rfl rfl rfl ?_
        refine mi_wp_p (pc' := 39) (st' := [.ref 52]) rfl rfl rfl ?_
        refine mi_wp_p (pc' := 40) (st' := [.ref 52, .ref 52]) rfl rfl rfl ?_
        refine ty_s_gr S rfl rfl rfl (List.mem_of_getElem? (i := 64) rfl) ?_
        refine mi_wp_p (pc' := 44) (st' := [.int (Int32.ofInt (mi_sA σ 15 i)), .ref 9, .ref 52]) rfl rfl rfl ?_
        refine ty_s_ci rfl rfl rfl rfl rfl rfl (mi_cal_v2 (np := 1) (args := [.ref 9, .int (Int32.ofInt (mi_sA σ 15 i))]) (rest := [.ref 52]) rfl rfl rfl rfl rfl (Nat.le_of_ble_eq_true rfl) rfl rfl (Nat.le_of_ble_eq_true rfl) (ty_rcS S (List.mem_of_getElem? (i := 5) rfl))) (Nat.le_of_ble_eq_true rfl) S (ty_tagOf (by omega) n2) ?_
        intro x hh σu S f P
        obtain ⟨g1, g2⟩ := P
        rw [g2] at S
        rw [g1, nr, ht]
        clear g1 g2
        replace fr := mi_Fm_tr fr f
        refine ty_s_ci rfl rfl rfl rfl rfl rfl (mi_cal_v2 (np := 1) (args := [.ref 52, .int (Int32.ofInt 9)]) (rest := []) rfl rfl rfl rfl rfl (Nat.le_of_ble_eq_true rfl) rfl rfl (Nat.le_of_ble_eq_true rfl) (ty_rcS S (List.mem_of_getElem? (i := 27) rfl))) (Nat.le_of_ble_eq_true rfl) S (wr_own9 KT) ?_
        intro x hh σu S f P
        obtain ⟨e1, e2⟩ := P
        rw [e2] at S
        rw [e1]
        clear e1 e2
        replace fr := mi_Fm_tr fr f
        refine mi_wp_p (pc' := 52) (l' := [(4, .int (Int32.ofInt 4)), (3, .int (Int32.ofInt (mi_sA σ 15 i))), (2, .int (Int32.ofInt i)), (0, .ref 52), (1, .int (Int32.ofInt nd))]) (st' := []) rfl rfl rfl ?_
        refine mi_wp_p (pc' := 53) (st' := [.int (Int32.ofInt 0)]) rfl rfl rfl ?_
        refine mi_wp_p (pc' := 55) (l' := [(5, .int (Int32.ofInt 0)), (4, .int (Int32.ofInt 4)), (3, .int (Int32.ofInt (mi_sA σ 15 i))), (2, .int (Int32.ofInt i)), (0, .ref 52), (1, .int (Int32.ofInt nd))]) (st' := []) rfl rfl rfl ?_
        refine mi_wp_p (pc' := 57) (st' := [.int (Int32.ofInt 0)]) rfl rfl rfl ?_
        refine mi_wp_p (pc' := 58) (st' := [.int (Int32.ofInt 3), .int (Int32.ofInt 0)]) rfl rfl rfl ?_
        refine mi_s_if2 (t := 114) rfl rfl rfl (by unfold mi_R; omega) (by unfold mi_R; omega) (fun hc_ => absurd (show 3 ≤ (0 : Int) from hc_) (by omega)) (fun _ => ?_)
        refine mi_wp_p (pc' := 62) (st' := [.ref 52]) rfl rfl rfl ?_
        refine ty_s_gr S rfl rfl rfl (List.mem_of_getElem? (i := 64) rfl) ?_
        refine mi_wp_p (pc' := 66) (st' := [.int (Int32.ofInt (mi_sA σ 15 i)), .ref 9]) rfl rfl rfl ?_
        refine mi_wp_p (pc' := 68) (st' := [.int (Int32.ofInt 0), .int (Int32.ofInt (mi_sA σ 15 i)), .ref 9]) rfl rfl rfl ?_
        refine ty_s_ci rfl rfl rfl rfl rfl rfl (mi_cal_v2 (np := 2) (args := [.ref 9, .int (Int32.ofInt (mi_sA σ 15 i)), .int (Int32.ofInt 0)]) (rest := []) rfl rfl rfl rfl rfl (Nat.le_of_ble_eq_true rfl) rfl rfl (Nat.le_of_ble_eq_true rfl) (ty_rcS S (List.mem_of_getElem? (i := 5) rfl))) (Nat.le_of_ble_eq_true rfl) S (ty_kidOf n1 n2 (by omega) (by rw [nr]; exact n4 0 (by omega) (by omega))) ?_
        intro x hh σu S f P
        obtain ⟨g1, g2⟩ := P
        rw [g2] at S
        rw [nr] at g1
        replace g1 : x = ty_K' σ (mi_sA σ 15 i) 0 := g1
        rw [g1]
        clear g1 g2
        replace fr := mi_Fm_tr fr f
        refine mi_wp_p (pc' := 73) (l' := [(6, .int (Int32.ofInt (ty_K' σ (mi_sA σ 15 i) 0))), (5, .int (Int32.ofInt 0)), (4, .int (Int32.ofInt 4)), (3, .int (Int32.ofInt (mi_sA σ 15 i))), (2, .int (Int32.ofInt i)), (0, .ref 52), (1, .int (Int32.ofInt nd))]) (st' := []) rfl rfl rfl ?_
        refine mi_wp_p (pc' := 75) (st' := [.int (Int32.ofInt (ty_K' σ (mi_sA σ 15 i) 0))]) rfl rfl rfl ?_
        refine mi_s_if1 (t := 108) rfl rfl rfl (by unfold mi_R; omega) (fun hc_ => absurd (show (ty_K' σ (mi_sA σ 15 i) 0) = 0 from hc_) (by omega)) (fun _ => ?_)
        refine mi_wp_p (pc' := 80) (st' := [.int (Int32.ofInt 4)]) rfl rfl rfl ?_
        refine mi_wp_p (pc' := 81) (st' := [.ref 52, .int (Int32.ofInt 4)]) rfl rfl rfl ?_
        refine ty_s_gr S rfl rfl rfl (List.mem_of_getElem? (i := 64) rfl) ?_
        refine mi_wp_p (pc' := 86) (st' := [.int (Int32.ofInt (ty_K' σ (mi_sA σ 15 i) 0)), .ref 9, .int (Int32.ofInt 4)]) rfl rfl rfl ?_
        refine ty_s_ci rfl rfl rfl rfl rfl rfl (mi_cal_v2 (np := 1) (args := [.ref 9, .int (Int32.ofInt (ty_K' σ (mi_sA σ 15 i) 0))]) (rest := [.int (Int32.ofInt 4)]) rfl rfl rfl rfl rfl (Nat.le_of_ble_eq_true rfl) rfl rfl (Nat.le_of_ble_eq_true rfl) (ty_rcS S (List.mem_of_getElem? (i := 5) rfl))) (Nat.le_of_ble_eq_true rfl) S (ty_noteOf (by omega) p0b) ?_
        intro x hh σu S f P
        obtain ⟨g1, g2⟩ := P
        rw [g2] at S
        rw [r0, m0] at g1
        rw [g1]
        clear g1 g2
        replace fr := mi_Fm_tr fr f
        refine mi_wp_p (pc' := 90) (st' := [.ref 52, .int (Int32.ofInt (wln (T (ty_K' σ (mi_sA σ 15 i) 0)))), .int (Int32.ofInt 4)]) rfl rfl rfl ?_
        refine mi_wp_p (pc' := 91) (st' := [.int (Int32.ofInt (mi_sA σ 15 i)), .ref 52, .int (Int32.ofInt (wln (T (ty_K' σ (mi_sA σ 15 i) 0)))), .int (Int32.ofInt 4)]) rfl rfl rfl ?_
        refine mi_wp_p (pc' := 93) (st' := [.int (Int32.ofInt 0), .int (Int32.ofInt (mi_sA σ 15 i)), .ref 52, .int (Int32.ofInt (wln (T (ty_K' σ (mi_sA σ 15 i) 0)))), .int (Int32.ofInt 4)]) rfl rfl rfl ?_
        refine ty_s_ci rfl rfl rfl rfl rfl rfl (mi_cal_v2 (np := 2) (args := [.ref 52, .int (Int32.ofInt (mi_sA σ 15 i)), .int (Int32.ofInt 0)]) (rest := [.int (Int32.ofInt (wln (T (ty_K' σ (mi_sA σ 15 i) 0)))), .int (Int32.ofInt 4)]) rfl rfl rfl rfl rfl (Nat.le_of_ble_eq_true rfl) rfl rfl (Nat.le_of_ble_eq_true rfl) (ty_rcS S (List.mem_of_getElem? (i := 27) rfl))) (Nat.le_of_ble_eq_true rfl) S (iw_T HT ZT GT n3 (by omega)) ?_
        intro x hh σu S f P
        obtain ⟨g1, g2⟩ := P
        rw [g2] at S
        rw [ht] at g1
        replace g1 : x = bki (pos 9 0) (T (ty_K' σ (mi_sA σ 15 i) 0)) := g1
        rw [g1]
        clear g1 g2
        replace fr := mi_Fm_tr fr f
        refine mi_s_if1 (t := 103) rfl rfl rfl (by unfold mi_R; omega) ?_ ?_
        · intro (c1 : (bki (pos 9 0) (T (ty_K' σ (mi_sA σ 15 i) 0))) = 0)
          refine mi_wp_p (pc' := 104) (st' := [.int (Int32.ofInt 0), .int (Int32.ofInt (wln (T (ty_K' σ (mi_sA σ 15 i) 0)))), .int (Int32.ofInt 4)]) rfl rfl rfl ?_
          refine mi_s_add rfl rfl ?_
          refine mi_s_add rfl rfl ?_
          refine mi_wp_p (pc' := 108) (l' := [(4, .int (Int32.ofInt (4 + ((wln (T (ty_K' σ (mi_sA σ 15 i) 0))) + 0)))), (6, .int (Int32.ofInt (ty_K' σ (mi_sA σ 15 i) 0))), (5, .int (Int32.ofInt 0)), (3, .int (Int32.ofInt (mi_sA σ 15 i))), (2, .int (Int32.ofInt i)), (0, .ref 52), (1, .int (Int32.ofInt nd))]) (st' := []) rfl rfl rfl ?_
          refine mi_s_inc (l' := [(5, .int (Int32.ofInt 1)), (4, .int (Int32.ofInt (4 + ((wln (T (ty_K' σ (mi_sA σ 15 i) 0))) + 0)))), (6, .int (Int32.ofInt (ty_K' σ (mi_sA σ 15 i) 0))), (3, .int (Int32.ofInt (mi_sA σ 15 i))), (2, .int (Int32.ofInt i)), (0, .ref 52), (1, .int (Int32.ofInt nd))]) rfl rfl rfl (by decide) rfl ?_
          refine mi_wp_p (pc' := 55) rfl rfl rfl ?_
          refine mi_wp_p (pc' := 57) (st' := [.int (Int32.ofInt 1)]) rfl rfl rfl ?_
          refine mi_wp_p (pc' := 58) (st' := [.int (Int32.ofInt 3), .int (Int32.ofInt 1)]) rfl rfl rfl ?_
          refine mi_s_if2 (t := 114) rfl rfl rfl (by unfold mi_R; omega) (by unfold mi_R; omega) (fun hc_ => absurd (show 3 ≤ (1 : Int) from hc_) (by omega)) (fun _ => ?_)
          refine mi_wp_p (pc' := 62) (st' := [.ref 52]) rfl rfl rfl ?_
          refine ty_s_gr S rfl rfl rfl (List.mem_of_getElem? (i := 64) rfl) ?_
          refine mi_wp_p (pc' := 66) (st' := [.int (Int32.ofInt (mi_sA σ 15 i)), .ref 9]) rfl rfl rfl ?_
          refine mi_wp_p (pc' := 68) (st' := [.int (Int32.ofInt 1), .int (Int32.ofInt (mi_sA σ 15 i)), .ref 9]) rfl rfl rfl ?_
          refine ty_s_ci rfl rfl rfl rfl rfl rfl (mi_cal_v2 (np := 2) (args := [.ref 9, .int (Int32.ofInt (mi_sA σ 15 i)), .int (Int32.ofInt 1)]) (rest := []) rfl rfl rfl rfl rfl (Nat.le_of_ble_eq_true rfl) rfl rfl (Nat.le_of_ble_eq_true rfl) (ty_rcS S (List.mem_of_getElem? (i := 5) rfl))) (Nat.le_of_ble_eq_true rfl) S (ty_kidOf n1 n2 (by omega) (by rw [nr]; exact n4 1 (by omega) (by omega))) ?_
          intro x hh σu S f P
          obtain ⟨g1, g2⟩ := P
          rw [g2] at S
          rw [nr] at g1
          replace g1 : x = ty_K' σ (mi_sA σ 15 i) 1 := g1
          rw [z1] at g1
          rw [g1]
          clear g1 g2
          replace fr := mi_Fm_tr fr f
          refine mi_wp_p (pc' := 73) (l' := [(6, .int (Int32.ofInt 0)), (5, .int (Int32.ofInt 1)), (4, .int (Int32.ofInt (4 + ((wln (T (ty_K' σ (mi_sA σ 15 i) 0))) + 0)))), (3, .int (Int32.ofInt (mi_sA σ 15 i))), (2, .int (Int32.ofInt i)), (0, .ref 52), (1, .int (Int32.ofInt nd))]) (st' := []) rfl rfl rfl ?_
          refine mi_wp_p (pc' := 75) (st' := [.int (Int32.ofInt 0)]) rfl rfl rfl ?_
          refine mi_s_if1 (t := 108) rfl rfl rfl (by unfold mi_R; omega) (fun _ => ?_) (fun hc_ => absurd (show (0 : Int) = 0 by omega) hc_)
          refine mi_s_inc (l' := [(5, .int (Int32.ofInt 2)), (6, .int (Int32.ofInt 0)), (4, .int (Int32.ofInt (4 + ((wln (T (ty_K' σ (mi_sA σ 15 i) 0))) + 0)))), (3, .int (Int32.ofInt (mi_sA σ 15 i))), (2, .int (Int32.ofInt i)), (0, .ref 52), (1, .int (Int32.ofInt nd))]) rfl rfl rfl (by decide) rfl ?_
          refine mi_wp_p (pc' := 55) rfl rfl rfl ?_
          refine mi_wp_p (pc' := 57) (st' := [.int (Int32.ofInt 2)]) rfl rfl rfl ?_
          refine mi_wp_p (pc' := 58) (st' := [.int (Int32.ofInt 3), .int (Int32.ofInt 2)]) rfl rfl rfl ?_
          refine mi_s_if2 (t := 114) rfl rfl rfl (by unfold mi_R; omega) (by unfold mi_R; omega) (fun hc_ => absurd (show 3 ≤ (2 : Int) from hc_) (by omega)) (fun _ => ?_)
          refine mi_wp_p (pc' := 62) (st' := [.ref 52]) rfl rfl rfl ?_
          refine ty_s_gr S rfl rfl rfl (List.mem_of_getElem? (i := 64) rfl) ?_
          refine mi_wp_p (pc' := 66) (st' := [.int (Int32.ofInt (mi_sA σ 15 i)), .ref 9]) rfl rfl rfl ?_
          refine mi_wp_p (pc' := 68) (st' := [.int (Int32.ofInt 2), .int (Int32.ofInt (mi_sA σ 15 i)), .ref 9]) rfl rfl rfl ?_
          refine ty_s_ci rfl rfl rfl rfl rfl rfl (mi_cal_v2 (np := 2) (args := [.ref 9, .int (Int32.ofInt (mi_sA σ 15 i)), .int (Int32.ofInt 2)]) (rest := []) rfl rfl rfl rfl rfl (Nat.le_of_ble_eq_true rfl) rfl rfl (Nat.le_of_ble_eq_true rfl) (ty_rcS S (List.mem_of_getElem? (i := 5) rfl))) (Nat.le_of_ble_eq_true rfl) S (ty_kidOf n1 n2 (by omega) (by rw [nr]; exact n4 2 (by omega) (by omega))) ?_
          intro x hh σu S f P
          obtain ⟨g1, g2⟩ := P
          rw [g2] at S
          rw [nr] at g1
          replace g1 : x = ty_K' σ (mi_sA σ 15 i) 2 := g1
          rw [z2] at g1
          rw [g1]
          clear g1 g2
          replace fr := mi_Fm_tr fr f
          refine mi_wp_p (pc' := 73) (l' := [(6, .int (Int32.ofInt 0)), (5, .int (Int32.ofInt 2)), (4, .int (Int32.ofInt (4 + ((wln (T (ty_K' σ (mi_sA σ 15 i) 0))) + 0)))), (3, .int (Int32.ofInt (mi_sA σ 15 i))), (2, .int (Int32.ofInt i)), (0, .ref 52), (1, .int (Int32.ofInt nd))]) (st' := []) rfl rfl rfl ?_
          refine mi_wp_p (pc' := 75) (st' := [.int (Int32.ofInt 0)]) rfl rfl rfl ?_
          refine mi_s_if1 (t := 108) rfl rfl rfl (by unfold mi_R; omega) (fun _ => ?_) (fun hc_ => absurd (show (0 : Int) = 0 by omega) hc_)
          refine mi_s_inc (l' := [(5, .int (Int32.ofInt 3)), (6, .int (Int32.ofInt 0)), (4, .int (Int32.ofInt (4 + ((wln (T (ty_K' σ (mi_sA σ 15 i) 0))) + 0)))), (3, .int (Int32.ofInt (mi_sA σ 15 i))), (2, .int (Int32.ofInt i)), (0, .ref 52), (1, .int (Int32.ofInt nd))]) rfl rfl rfl (by decide) rfl ?_
          refine mi_wp_p (pc' := 55) rfl rfl rfl ?_
          refine mi_wp_p (pc' := 57) (st' := [.int (Int32.ofInt 3)]) rfl rfl rfl ?_
          refine mi_wp_p (pc' := 58) (st' := [.int (Int32.ofInt 3), .int (Int32.ofInt 3)]) rfl rfl rfl ?_
          refine mi_s_if2 (t := 114) rfl rfl rfl (by unfold mi_R; omega) (by unfold mi_R; omega) (fun _ => ?_) (fun hc_ => absurd (show 3 ≤ (3 : Int) by omega) hc_)
          refine mi_wp_p (pc' := 115) (st' := [.ref 52]) rfl rfl rfl ?_
          refine ty_s_gr S rfl rfl rfl (List.mem_of_getElem? (i := 64) rfl) ?_
          refine mi_wp_p (pc' := 119) (st' := [.int (Int32.ofInt (mi_sA σ 15 i)), .ref 9]) rfl rfl rfl ?_
          refine mi_wp_p (pc' := 121) (st' := [.int (Int32.ofInt (4 + ((wln (T (ty_K' σ (mi_sA σ 15 i) 0))) + 0))), .int (Int32.ofInt (mi_sA σ 15 i)), .ref 9]) rfl rfl rfl ?_
          refine mi_wp_p (pc' := 122) (st' := [.ref 52, .int (Int32.ofInt (4 + ((wln (T (ty_K' σ (mi_sA σ 15 i) 0))) + 0))), .int (Int32.ofInt (mi_sA σ 15 i)), .ref 9]) rfl rfl rfl ?_
          refine mi_wp_p (pc' := 123) (st' := [.int (Int32.ofInt (mi_sA σ 15 i)), .ref 52, .int (Int32.ofInt (4 + ((wln (T (ty_K' σ (mi_sA σ 15 i) 0))) + 0))), .int (Int32.ofInt (mi_sA σ 15 i)), .ref 9]) rfl rfl rfl ?_
          refine ty_s_ci rfl rfl rfl rfl rfl rfl (mi_cal_v2 (np := 1) (args := [.ref 52, .int (Int32.ofInt (mi_sA σ 15 i))]) (rest := [.int (Int32.ofInt (4 + ((wln (T (ty_K' σ (mi_sA σ 15 i) 0))) + 0))), .int (Int32.ofInt (mi_sA σ 15 i)), .ref 9]) rfl rfl rfl rfl rfl (Nat.le_of_ble_eq_true rfl) rfl rfl (Nat.le_of_ble_eq_true rfl) (ty_rcS S (List.mem_of_getElem? (i := 27) rfl))) (Nat.le_of_ble_eq_true rfl) S (wr_blanks9 n1 n2 nr ht n4 p0 (by omega) z1 z2) ?_
          intro x hh σu S f P
          obtain ⟨e1, e2⟩ := P
          rw [e2] at S
          rw [e1]
          clear e1 e2
          replace fr := mi_Fm_tr fr f
          refine mi_s_add rfl rfl ?_
          refine mi_s_ldc (e := 1000000) rfl rfl rfl (by decide +kernel) ?_
          refine mi_s_mn rfl rfl rfl (Nat.le_of_ble_eq_true rfl) (by unfold mi_R; omega) (by unfold mi_R; omega) ?_
          refine ty_s_cv rfl rfl rfl rfl rfl rfl (mi_cal_v2 (np := 2) (args := [.ref 9, .int (Int32.ofInt (mi_sA σ 15 i)), .int (Int32.ofInt (min ((4 + ((wln (T (ty_K' σ (mi_sA σ 15 i) 0))) + 0)) + 1) 1000000))]) (rest := []) rfl rfl rfl rfl rfl (Nat.le_of_ble_eq_true rfl) rfl rfl (Nat.le_of_ble_eq_true rfl) (ty_rcS S (List.mem_of_getElem? (i := 5) rfl))) (Nat.le_of_ble_eq_true rfl) S (ty_setNote (by omega) n2) ?_
          intro hh σ3 S f P
          rw [nr] at P
          subst P
          replace fr := mi_Fm_tr fr f
          refine mi_s_inc (l' := [(2, .int (Int32.ofInt (i + 1))), (5, .int (Int32.ofInt 3)), (6, .int (Int32.ofInt 0)), (4, .int (Int32.ofInt (4 + ((wln (T (ty_K' σ (mi_sA σ 15 i) 0))) + 0)))), (3, .int (Int32.ofInt (mi_sA σ 15 i))), (0, .ref 52), (1, .int (Int32.ofInt nd))]) rfl rfl rfl (by decide) rfl ?_
          refine mi_wp_p (pc' := 18) rfl rfl rfl ?_
          refine mi_wp_lw (l := [(2, .int (Int32.ofInt (i + 1))), (0, .ref 52), (1, .int (Int32.ofInt nd))]) (mi_lw_of (show List.Nodup [2, 0, 1] by decide) ⟨rfl, rfl, rfl, trivial⟩) ?_
          refine ih _ (by omega) _ (i + 1) rfl (by omega) (by omega) (ga_L_set E G hi0 hi ?_) _ S fr
          · show _ = wln (T (mi_sA σ 15 i))
            unfold wln at *
            rw [hw] <;> omega
        · intro (c1 : ¬ ((bki (pos 9 0) (T (ty_K' σ (mi_sA σ 15 i) 0))) = 0))
          refine mi_wp_p (pc' := 100) (st' := [.int (Int32.ofInt 2), .int (Int32.ofInt (wln (T (ty_K' σ (mi_sA σ 15 i) 0)))), .int (Int32.ofInt 4)]) rfl rfl rfl ?_
          refine mi_wp_p (pc' := 104) rfl rfl rfl ?_
          refine mi_s_add rfl rfl ?_
          refine mi_s_add rfl rfl ?_
          refine mi_wp_p (pc' := 108) (l' := [(4, .int (Int32.ofInt (4 + ((wln (T (ty_K' σ (mi_sA σ 15 i) 0))) + 2)))), (6, .int (Int32.ofInt (ty_K' σ (mi_sA σ 15 i) 0))), (5, .int (Int32.ofInt 0)), (3, .int (Int32.ofInt (mi_sA σ 15 i))), (2, .int (Int32.ofInt i)), (0, .ref 52), (1, .int (Int32.ofInt nd))]) (st' := []) rfl rfl rfl ?_
          refine mi_s_inc (l' := [(5, .int (Int32.ofInt 1)), (4, .int (Int32.ofInt (4 + ((wln (T (ty_K' σ (mi_sA σ 15 i) 0))) + 2)))), (6, .int (Int32.ofInt (ty_K' σ (mi_sA σ 15 i) 0))), (3, .int (Int32.ofInt (mi_sA σ 15 i))), (2, .int (Int32.ofInt i)), (0, .ref 52), (1, .int (Int32.ofInt nd))]) rfl rfl rfl (by decide) rfl ?_
          refine mi_wp_p (pc' := 55) rfl rfl rfl ?_
          refine mi_wp_p (pc' := 57) (st' := [.int (Int32.ofInt 1)]) rfl rfl rfl ?_
          refine mi_wp_p (pc' := 58) (st' := [.int (Int32.ofInt 3), .int (Int32.ofInt 1)]) rfl rfl rfl ?_
          refine mi_s_if2 (t := 114) rfl rfl rfl (by unfold mi_R; omega) (by unfold mi_R; omega) (fun hc_ => absurd (show 3 ≤ (1 : Int) from hc_) (by omega)) (fun _ => ?_)
          refine mi_wp_p (pc' := 62) (st' := [.ref 52]) rfl rfl rfl ?_
          refine ty_s_gr S rfl rfl rfl (List.mem_of_getElem? (i := 64) rfl) ?_
          refine mi_wp_p (pc' := 66) (st' := [.int (Int32.ofInt (mi_sA σ 15 i)), .ref 9]) rfl rfl rfl ?_
          refine mi_wp_p (pc' := 68) (st' := [.int (Int32.ofInt 1), .int (Int32.ofInt (mi_sA σ 15 i)), .ref 9]) rfl rfl rfl ?_
          refine ty_s_ci rfl rfl rfl rfl rfl rfl (mi_cal_v2 (np := 2) (args := [.ref 9, .int (Int32.ofInt (mi_sA σ 15 i)), .int (Int32.ofInt 1)]) (rest := []) rfl rfl rfl rfl rfl (Nat.le_of_ble_eq_true rfl) rfl rfl (Nat.le_of_ble_eq_true rfl) (ty_rcS S (List.mem_of_getElem? (i := 5) rfl))) (Nat.le_of_ble_eq_true rfl) S (ty_kidOf n1 n2 (by omega) (by rw [nr]; exact n4 1 (by omega) (by omega))) ?_
          intro x hh σu S f P
          obtain ⟨g1, g2⟩ := P
          rw [g2] at S
          rw [nr] at g1
          replace g1 : x = ty_K' σ (mi_sA σ 15 i) 1 := g1
          rw [z1] at g1
          rw [g1]
          clear g1 g2
          replace fr := mi_Fm_tr fr f
          refine mi_wp_p (pc' := 73) (l' := [(6, .int (Int32.ofInt 0)), (5, .int (Int32.ofInt 1)), (4, .int (Int32.ofInt (4 + ((wln (T (ty_K' σ (mi_sA σ 15 i) 0))) + 2)))), (3, .int (Int32.ofInt (mi_sA σ 15 i))), (2, .int (Int32.ofInt i)), (0, .ref 52), (1, .int (Int32.ofInt nd))]) (st' := []) rfl rfl rfl ?_
          refine mi_wp_p (pc' := 75) (st' := [.int (Int32.ofInt 0)]) rfl rfl rfl ?_
          refine mi_s_if1 (t := 108) rfl rfl rfl (by unfold mi_R; omega) (fun _ => ?_) (fun hc_ => absurd (show (0 : Int) = 0 by omega) hc_)
          refine mi_s_inc (l' := [(5, .int (Int32.ofInt 2)), (6, .int (Int32.ofInt 0)), (4, .int (Int32.ofInt (4 + ((wln (T (ty_K' σ (mi_sA σ 15 i) 0))) + 2)))), (3, .int (Int32.ofInt (mi_sA σ 15 i))), (2, .int (Int32.ofInt i)), (0, .ref 52), (1, .int (Int32.ofInt nd))]) rfl rfl rfl (by decide) rfl ?_
          refine mi_wp_p (pc' := 55) rfl rfl rfl ?_
          refine mi_wp_p (pc' := 57) (st' := [.int (Int32.ofInt 2)]) rfl rfl rfl ?_
          refine mi_wp_p (pc' := 58) (st' := [.int (Int32.ofInt 3), .int (Int32.ofInt 2)]) rfl rfl rfl ?_
          refine mi_s_if2 (t := 114) rfl rfl rfl (by unfold mi_R; omega) (by unfold mi_R; omega) (fun hc_ => absurd (show 3 ≤ (2 : Int) from hc_) (by omega)) (fun _ => ?_)
          refine mi_wp_p (pc' := 62) (st' := [.ref 52]) rfl rfl rfl ?_
          refine ty_s_gr S rfl rfl rfl (List.mem_of_getElem? (i := 64) rfl) ?_
          refine mi_wp_p (pc' := 66) (st' := [.int (Int32.ofInt (mi_sA σ 15 i)), .ref 9]) rfl rfl rfl ?_
          refine mi_wp_p (pc' := 68) (st' := [.int (Int32.ofInt 2), .int (Int32.ofInt (mi_sA σ 15 i)), .ref 9]) rfl rfl rfl ?_
          refine ty_s_ci rfl rfl rfl rfl rfl rfl (mi_cal_v2 (np := 2) (args := [.ref 9, .int (Int32.ofInt (mi_sA σ 15 i)), .int (Int32.ofInt 2)]) (rest := []) rfl rfl rfl rfl rfl (Nat.le_of_ble_eq_true rfl) rfl rfl (Nat.le_of_ble_eq_true rfl) (ty_rcS S (List.mem_of_getElem? (i := 5) rfl))) (Nat.le_of_ble_eq_true rfl) S (ty_kidOf n1 n2 (by omega) (by rw [nr]; exact n4 2 (by omega) (by omega))) ?_
          intro x hh σu S f P
          obtain ⟨g1, g2⟩ := P
          rw [g2] at S
          rw [nr] at g1
          replace g1 : x = ty_K' σ (mi_sA σ 15 i) 2 := g1
          rw [z2] at g1
          rw [g1]
          clear g1 g2
          replace fr := mi_Fm_tr fr f
          refine mi_wp_p (pc' := 73) (l' := [(6, .int (Int32.ofInt 0)), (5, .int (Int32.ofInt 2)), (4, .int (Int32.ofInt (4 + ((wln (T (ty_K' σ (mi_sA σ 15 i) 0))) + 2)))), (3, .int (Int32.ofInt (mi_sA σ 15 i))), (2, .int (Int32.ofInt i)), (0, .ref 52), (1, .int (Int32.ofInt nd))]) (st' := []) rfl rfl rfl ?_
          refine mi_wp_p (pc' := 75) (st' := [.int (Int32.ofInt 0)]) rfl rfl rfl ?_
          refine mi_s_if1 (t := 108) rfl rfl rfl (by unfold mi_R; omega) (fun _ => ?_) (fun hc_ => absurd (show (0 : Int) = 0 by omega) hc_)
          refine mi_s_inc (l' := [(5, .int (Int32.ofInt 3)), (6, .int (Int32.ofInt 0)), (4, .int (Int32.ofInt (4 + ((wln (T (ty_K' σ (mi_sA σ 15 i) 0))) + 2)))), (3, .int (Int32.ofInt (mi_sA σ 15 i))), (2, .int (Int32.ofInt i)), (0, .ref 52), (1, .int (Int32.ofInt nd))]) rfl rfl rfl (by decide) rfl ?_
          refine mi_wp_p (pc' := 55) rfl rfl rfl ?_
          refine mi_wp_p (pc' := 57) (st' := [.int (Int32.ofInt 3)]) rfl rfl rfl ?_
          refine mi_wp_p (pc' := 58) (st' := [.int (Int32.ofInt 3), .int (Int32.ofInt 3)]) rfl rfl rfl ?_
          refine mi_s_if2 (t := 114) rfl rfl rfl (by unfold mi_R; omega) (by unfold mi_R; omega) (fun _ => ?_) (fun hc_ => absurd (show 3 ≤ (3 : Int) by omega) hc_)
          refine mi_wp_p (pc' := 115) (st' := [.ref 52]) rfl rfl rfl ?_
          refine ty_s_gr S rfl rfl rfl (List.mem_of_getElem? (i := 64) rfl) ?_
          refine mi_wp_p (pc' := 119) (st' := [.int (Int32.ofInt (mi_sA σ 15 i)), .ref 9]) rfl rfl rfl ?_
          refine mi_wp_p (pc' := 121) (st' := [.int (Int32.ofInt (4 + ((wln (T (ty_K' σ (mi_sA σ 15 i) 0))) + 2))), .int (Int32.ofInt (mi_sA σ 15 i)), .ref 9]) rfl rfl rfl ?_
          refine mi_wp_p (pc' := 122) (st' := [.ref 52, .int (Int32.ofInt (4 + ((wln (T (ty_K' σ (mi_sA σ 15 i) 0))) + 2))), .int (Int32.ofInt (mi_sA σ 15 i)), .ref 9]) rfl rfl rfl ?_
          refine mi_wp_p (pc' := 123) (st' := [.int (Int32.ofInt (mi_sA σ 15 i)), .ref 52, .int (Int32.ofInt (4 + ((wln (T (ty_K' σ (mi_sA σ 15 i) 0))) + 2))), .int (Int32.ofInt (mi_sA σ 15 i)), .ref 9]) rfl rfl rfl ?_
          refine ty_s_ci rfl rfl rfl rfl rfl rfl (mi_cal_v2 (np := 1) (args := [.ref 52, .int (Int32.ofInt (mi_sA σ 15 i))]) (rest := [.int (Int32.ofInt (4 + ((wln (T (ty_K' σ (mi_sA σ 15 i) 0))) + 2))), .int (Int32.ofInt (mi_sA σ 15 i)), .ref 9]) rfl rfl rfl rfl rfl (Nat.le_of_ble_eq_true rfl) rfl rfl (Nat.le_of_ble_eq_true rfl) (ty_rcS S (List.mem_of_getElem? (i := 27) rfl))) (Nat.le_of_ble_eq_true rfl) S (wr_blanks9 n1 n2 nr ht n4 p0 (by omega) z1 z2) ?_
          intro x hh σu S f P
          obtain ⟨e1, e2⟩ := P
          rw [e2] at S
          rw [e1]
          clear e1 e2
          replace fr := mi_Fm_tr fr f
          refine mi_s_add rfl rfl ?_
          refine mi_s_ldc (e := 1000000) rfl rfl rfl (by decide +kernel) ?_
          refine mi_s_mn rfl rfl rfl (Nat.le_of_ble_eq_true rfl) (by unfold mi_R; omega) (by unfold mi_R; omega) ?_
          refine ty_s_cv rfl rfl rfl rfl rfl rfl (mi_cal_v2 (np := 2) (args := [.ref 9, .int (Int32.ofInt (mi_sA σ 15 i)), .int (Int32.ofInt (min ((4 + ((wln (T (ty_K' σ (mi_sA σ 15 i) 0))) + 2)) + 1) 1000000))]) (rest := []) rfl rfl rfl rfl rfl (Nat.le_of_ble_eq_true rfl) rfl rfl (Nat.le_of_ble_eq_true rfl) (ty_rcS S (List.mem_of_getElem? (i := 5) rfl))) (Nat.le_of_ble_eq_true rfl) S (ty_setNote (by omega) n2) ?_
          intro hh σ3 S f P
          rw [nr] at P
          subst P
          replace fr := mi_Fm_tr fr f
          refine mi_s_inc (l' := [(2, .int (Int32.ofInt (i + 1))), (5, .int (Int32.ofInt 3)), (6, .int (Int32.ofInt 0)), (4, .int (Int32.ofInt (4 + ((wln (T (ty_K' σ (mi_sA σ 15 i) 0))) + 2)))), (3, .int (Int32.ofInt (mi_sA σ 15 i))), (0, .ref 52), (1, .int (Int32.ofInt nd))]) rfl rfl rfl (by decide) rfl ?_
          refine mi_wp_p (pc' := 18) rfl rfl rfl ?_
          refine mi_wp_lw (l := [(2, .int (Int32.ofInt (i + 1))), (0, .ref 52), (1, .int (Int32.ofInt nd))]) (mi_lw_of (show List.Nodup [2, 0, 1] by decide) ⟨rfl, rfl, rfl, trivial⟩) ?_
          refine ih _ (by omega) _ (i + 1) rfl (by omega) (by omega) (ga_L_set E G hi0 hi ?_) _ S fr
          · show _ = wln (T (mi_sA σ 15 i))
            unfold wln at *
            rw [hw] <;> omega
    · have hi : mi_sF σ 9 10 ≤ i := by omega
      refine mi_wp_p (pc' := 19) (st' := [.int (Int32.ofInt i)]) rfl rfl rfl ?_
      refine mi_wp_p (pc' := 20) (st' := [.ref 52, .int (Int32.ofInt i)]) rfl rfl rfl ?_
      refine ty_s_gr S rfl rfl rfl (List.mem_of_getElem? (i := 64) rfl) ?_
      refine ty_s_ci rfl rfl rfl rfl rfl rfl (mi_cal_v2 (np := 0) (args := [.ref 9]) (rest := [.int (Int32.ofInt i)]) rfl rfl rfl rfl rfl (Nat.le_of_ble_eq_true rfl) rfl rfl (Nat.le_of_ble_eq_true rfl) (ty_rcS S (List.mem_of_getElem? (i := 5) rfl))) (Nat.le_of_ble_eq_true rfl) S ty_gathered ?_
      intro x hh σu S f P
      obtain ⟨e1, e2⟩ := P
      rw [e2] at S
      rw [e1]
      clear e1 e2
      replace fr := mi_Fm_tr fr f
      refine mi_s_if2 (t := 141) rfl rfl rfl (by unfold mi_R; omega) (by unfold mi_R; omega) (fun _ => ?_) (fun hc_ => absurd (show (mi_sF σ 9 10) ≤ i by omega) hc_)
      refine mi_wp_p (pc' := 142) (st' := [.ref 52]) rfl rfl rfl ?_
      refine ty_s_gr S rfl rfl rfl (List.mem_of_getElem? (i := 64) rfl) ?_
      refine mi_wp_p (pc' := 146) (st' := [.int (Int32.ofInt nd), .ref 9]) rfl rfl rfl ?_
      refine ty_s_ci rfl rfl rfl rfl rfl rfl (mi_cal_v2 (np := 1) (args := [.ref 9, .int (Int32.ofInt nd)]) (rest := []) rfl rfl rfl rfl rfl (Nat.le_of_ble_eq_true rfl) rfl rfl (Nat.le_of_ble_eq_true rfl) (ty_rcS S (List.mem_of_getElem? (i := 5) rfl))) (Nat.le_of_ble_eq_true rfl) S (ty_noteOf (Int.le_of_lt hz) (by omega)) ?_
      intro x hh σu S f P
      obtain ⟨e1, e2⟩ := P
      rw [e2] at S
      rw [e1]
      clear e1 e2
      replace fr := mi_Fm_tr fr f
      have e12 : mi_sA σ 12 = mi_sA σ0 12 := sg_Af_Ak F0 (by decide)
      have hr := ty_H_r S hz (by omega)
      rw [e12] at hr
      have hx := ga_L_root E G hi hr.1 (by omega)
      exact ty_s_ret S fr rfl rfl rfl (mi_ret_i rfl) ⟨_, rfl, ⟨by rw [e12]; exact hx, ga_L_E E G⟩⟩
theorem wr_len {X : mi_X} {d : Nat} {σ : mi_Sg} {Sx : Int → Prop} {T : Int → tr} {nd : Int} (Z : ty_Z σ) (hr : mi_sF σ 9 11 < 100000000) (H : ty_T σ Sx T) (G7 : tg7 σ Sx) (K : kb σ) (hz : 0 < nd) (h1 : nd < mi_sF σ 9 8) (hS0 : Sx (mi_sA σ 12 nd)) : ty_Ci X (d + 4) mi_M157 [(0, .ref 52), (1, .int (Int32.ofInt nd))] σ (fun x σ' => x = wln (T (mi_sA σ 12 nd)) ∧ ga_E Sx (mi_sA σ 12 nd) σ σ') := by
  intro h S
  have fr := mi_Fm_rf h
  have hu := ty_H_u S
  obtain ⟨G1, B1⟩ := ty_b_G Z hr
  have hK := (ga_K_r S Z.2.1).1
  have hS0 := fun (_ : mi_sA σ 12 nd ≠ 0) => hS0
  refine mi_wp_p (pc' := 1) (st' := [.ref 52]) rfl rfl rfl ?_
  refine ty_s_gr S rfl rfl rfl (List.mem_of_getElem? (i := 64) rfl) ?_
  refine ty_s_cv rfl rfl rfl rfl rfl rfl (mi_cal_v2 (np := 0) (args := [.ref 9]) (rest := []) rfl rfl rfl rfl rfl (Nat.le_of_ble_eq_true rfl) rfl rfl (Nat.le_of_ble_eq_true rfl) (ty_rcS S (List.mem_of_getElem? (i := 5) rfl))) (Nat.le_of_ble_eq_true rfl) S ty_begin ?_
  intro hh σ1 S f P
  subst P
  change ty_H _ (ty_b σ) at S
  replace fr := mi_Fm_tr fr f
  refine mi_wp_p (pc' := 8) (st' := [.ref 52]) rfl rfl rfl ?_
  refine ty_s_gr S rfl rfl rfl (List.mem_of_getElem? (i := 64) rfl) ?_
  refine mi_wp_p (pc' := 12) (st' := [.int (Int32.ofInt nd), .ref 9]) rfl rfl rfl ?_
  refine ty_s_ci rfl rfl rfl rfl rfl rfl (mi_cal_v2 (np := 1) (args := [.ref 9, .int (Int32.ofInt nd)]) (rest := []) rfl rfl rfl rfl rfl (Nat.le_of_ble_eq_true rfl) rfl rfl (Nat.le_of_ble_eq_true rfl) (ty_rcS S (List.mem_of_getElem? (i := 5) rfl))) (Nat.le_of_ble_eq_true rfl) S (ty_gather (Sx := Sx) G1 B1 (Int.le_of_lt hz) h1 (ty_T_S H) hS0) ?_
  intro x hh σ2 S f P
  obtain ⟨F2, hx⟩ := P
  obtain ⟨ex, R⟩ := hx.resolve_right (fun q => q.2.1 _ (ty_T_z H))
  rw [ex]
  have E := ga_E_of (σ0 := σ) hK F2 R
  clear ex hx
  replace fr := mi_Fm_tr fr f
  refine mi_wp_p (pc' := 16) (st' := []) rfl rfl rfl ?_
  refine mi_wp_p (pc' := 17) (st' := [.int (Int32.ofInt 0)]) rfl rfl rfl ?_
  refine mi_wp_p (pc' := 18) (l' := [(2, .int (Int32.ofInt 0)), (0, .ref 52), (1, .int (Int32.ofInt nd))]) (st' := []) rfl rfl rfl ?_
  refine mi_wp_lw (l := [(2, .int (Int32.ofInt 0)), (0, .ref 52), (1, .int (Int32.ofInt nd))]) (mi_lw_of (show List.Nodup [2, 0, 1] by decide) ⟨rfl, rfl, rfl, trivial⟩) ?_
  exact wr_len_l E Z H G7 K hz h1 _ _ 0 rfl (Int.le_refl _) (ga_E_g E (by omega)).1 (ga_L_0 E) _ S fr
