/-! ===== the law, from its entry to its end (printed by wip/gen/p1end.py) ===== -/
section MEN
variable {X : mi_X} {d : Nat} {M : mi_M} {pc c s : Nat} {l : mi_L} {st : List Value} {h : mi_H} {Q : mi_Z → Prop}
theorem mi_wp_new {idx ci k : Nat} {q : vw_C} (ht : mi_lk (mi_th M) pc = none) (hi : mi_lk (mi_cd M) pc = some (.new idx, 3)) (hk : mi_lk (mi_kl (mi_ow M)) idx = some ci) (hq : mi_cl[ci]? = some q) (hl : h.length = k) (kk : mi_wp X d M (pc + 3) l (.ref k :: st) (h ++ [mi_fresh ci]) (c + 1) (s + q.2.2) Q) : mi_wp X d M pc l st h c s Q := by
  subst hl
  refine mi_wp_m ht hi rfl (by unfold mi_ret; rfl) rfl ?_ kk
  show mi_new (mi_ow M) idx (pc + 3) st h c s = _
  unfold mi_new mi_fresh
  simp only [hk, hq]
theorem mi_wp_nal {k : Nat} {n : Int32} {r : List Value} (ht : mi_lk (mi_th M) pc = none) (hi : mi_lk (mi_cd M) pc = some (.newarray .long, 2)) (hl : h.length = k) (hb : mi_inb n 200001 = true) (kk : mi_wp X d M (pc + 2) l (.ref k :: r) (h ++ [.inl (1, n.toNatClampNeg, .inr (.inl (fun _ => 0)))]) (c + 1) (s + n.toNatClampNeg) Q) : mi_wp X d M pc l (.int n :: r) h c s Q := by
  subst hl
  refine mi_wp_m ht hi rfl (by unfold mi_ret; rfl) rfl ?_ kk
  show mi_nar 1 (fun n => (n, .inr (.inl (fun _ => 0)))) (pc + 2) (.int n :: r) h c s = _
  unfold mi_nar
  exact if_pos hb
end MEN
theorem mi_lt6 : ∀ L : Nat, L < 6 → mi_cc .gt (Int32.ofInt 0) (Int32.ofNat L - (Int8.ofInt 6).toInt32) = true := by decide +kernel
theorem mi_and15 (x : Int32) : ∃ k : Nat, k < 16 ∧ x &&& (Int8.ofInt 15).toInt32 = Int32.ofNat k := by
  have hv : (x &&& (Int8.ofInt 15).toInt32).toBitVec = x.toBitVec &&& ((Int8.ofInt 15).toInt32).toBitVec := Int32.toBitVec_and _ _
  have hm : ((Int8.ofInt 15).toInt32).toBitVec.toNat = 15 := by decide +kernel
  refine ⟨(x &&& (Int8.ofInt 15).toInt32).toBitVec.toNat, ?_, ?_⟩
  · rw [hv, BitVec.toNat_and, hm]
    exact Nat.lt_succ_of_le Nat.and_le_right
  · refine Int32.toBitVec_inj.mp ?_
    show _ = BitVec.ofNat 32 _
    rw [BitVec.ofNat_toNat, BitVec.setWidth_eq]
/-- how the law is to end -/
abbrev mi_Qe : mi_Z → Prop := fun z => ∃ h' c' s', z = (.inl (some (.int 1)), h', c', s') ∧ c' ≤ 600002 ∧ s' ≤ 7302232
theorem mi_Qe_of {c s : Nat} (hc : c ≤ 590000) (hs : s ≤ 7000000) : ∀ z : mi_Z, (∃ h' c' s', z = (.inl (some (.int (Int32.ofInt 1))), h', c', s') ∧ c' ≤ c + 5000 ∧ s' ≤ s + 50000) → mi_Qe z := fun z ⟨h', c', s', e, g1, g2⟩ =>
  ⟨h', c', s', by rw [e, show Int32.ofInt 1 = 1 by decide +kernel], by omega, by omega⟩
theorem mi_cnt {x : Int32} (h0 : ¬ x = 0) (h1 : ¬ x = 1) (h2 : ¬ x = 2) (h3 : ¬ x = 3) (h4 : ¬ x = 4) : (x < 0 ∨ Int32.ofInt 5 ≤ x) ∧ (x < Int32.ofInt 0 ∨ Int32.ofInt 4 < x) := by
  have e : ∀ y : Int32, ¬ x = y → x.toInt ≠ y.toInt := fun y hy q => hy (Int32.toInt_inj.mp q)
  have g0 := e 0 h0
  have g1 := e 1 h1
  have g2 := e 2 h2
  have g3 := e 3 h3
  have g4 := e 4 h4
  rw [show (0 : Int32).toInt = 0 by decide] at g0
  rw [show (1 : Int32).toInt = 1 by decide] at g1
  rw [show (2 : Int32).toInt = 2 by decide] at g2
  rw [show (3 : Int32).toInt = 3 by decide] at g3
  rw [show (4 : Int32).toInt = 4 by decide] at g4
  simp only [Int32.lt_iff_toInt_lt, Int32.le_iff_toInt_le]
  rw [show (0 : Int32).toInt = 0 by decide, show (Int32.ofInt 5).toInt = 5 by decide, show (Int32.ofInt 0).toInt = 0 by decide, show (Int32.ofInt 4).toInt = 4 by decide]
  omega
set_option maxHeartbeats 1000000 in
theorem mi_road {xs : Nat → Int32} {c s k : Nat} {h2 : mi_H} (qA : mi_lq mi_hA h2) (qB : mi_lq mi_hB h2) (hk : k < 16) (hx : xs 0 &&& (Int8.ofInt 15).toInt32 = Int32.ofNat k) : mi_wp (some (6, xs)) 21 mi_ML 40 [(4, .int (Int32.ofInt 0)), (3, .ref 98), (2, .ref 55), (1, .ref 0), (0, .retAddr 3)] [.int (Int32.ofNat k)] h2 c s (fun z => ∃ h' c' s', z = (.inl (some (.int (Int32.ofInt 1))), h', c', s') ∧ c' ≤ c + 5000 ∧ s' ≤ s + 50000) := by
  obtain ⟨g, a0⟩ := mi_f_a1
  obtain ⟨g2, a2⟩ := mi_f_a56
  obtain ⟨f, a1⟩ := mi_f_a98
  replace a0 := mi_ai_le qA a0
  replace a2 := mi_ai_le qB a2
  replace a1 := mi_al_le qB a1
  have hl : h2.length = 99 := qA.1.symm.trans mi_f_lenA
  have hk2 : k = 0 ∨ k = 1 ∨ k = 2 ∨ k = 3 ∨ k = 4 ∨ k = 5 ∨ k = 6 ∨ k = 7 ∨ k = 8 ∨ k = 9 ∨ k = 10 ∨ k = 11 ∨ k = 12 ∨ k = 13 ∨ k = 14 ∨ k = 15 := by omega
  rcases hk2 with rfl | rfl | rfl | rfl | rfl | rfl | rfl | rfl | rfl | rfl | rfl | rfl | rfl | rfl | rfl | rfl
  · refine mi_wp_p (pc' := 120) rfl rfl rfl ?_
    exact (mi_L_feed rfl rfl rfl rfl rfl (mi_fv_le qA mi_f_0_10) (mi_fv_le qA mi_f_0_0) (mi_fv_le qB mi_f_55_0) (mi_fv_le qB mi_f_55_2) (mi_fv_le qB mi_f_55_1) a0 a2 a1 hl)
  · refine mi_wp_p (pc' := 224) rfl rfl rfl ?_
    by_cases hne : xs 1 = 0
    · exact (mi_L_trim0 (mi_fv_le qA mi_f_0_10) (mi_fv_le qB mi_f_55_0) (mi_fv_le qB mi_f_55_2) a1 hne)
    · exact (mi_L_trim rfl (mi_fv_le qA mi_f_0_10) (mi_fv_le qB mi_f_55_0) (mi_fv_le qB mi_f_55_2) hne)
  · refine mi_wp_p (pc' := 280) rfl rfl rfl ?_
    obtain ⟨h3, c1, s1, k1, qC, b1, b3⟩ := mi_eA mi_chk0_l qA qB (some (6, xs))
    obtain ⟨h4, c2, s2, k2, b2, b4⟩ := mi_eB mi_chk2_l.1 qC (some (6, xs))
    have r0 := mi_fv_le qC mi_f_55_0
    exact (mi_L_compile (mi_fv_le qA mi_f_0_10) r0 k1 k2 b1 b2 b3 b4)
  · refine mi_wp_p (pc' := 293) rfl rfl rfl ?_
    obtain ⟨h3, c1, s1, k1, qC, b1, b3⟩ := mi_eA mi_chk1_l.1 qA qB (some (6, xs))
    obtain ⟨h4, c2, s2, k2, b2, b4⟩ := mi_eB mi_chk2_l.2.1 qC (some (6, xs))
    have r0 := mi_fv_le qC mi_f_55_0
    exact (mi_L_errorAt (mi_fv_le qA mi_f_0_10) r0 k1 k2 b1 b2 b3 b4)
  · refine mi_wp_p (pc' := 306) rfl rfl rfl ?_
    by_cases h0 : xs 1 = 0
    · exact (mi_L_count0 (mi_fv_le qA mi_f_0_4) (mi_fv_le qA mi_f_17_12) (mi_fv_le qB mi_f_55_0) (mi_fv_le qB mi_f_55_27) a1 h0)
    by_cases h1 : xs 1 = 1
    · exact (mi_L_count1 (mi_fv_le qA mi_f_0_4) (mi_fv_le qA mi_f_17_13) (mi_fv_le qB mi_f_55_0) (mi_fv_le qB mi_f_55_30) a1 h1)
    by_cases h2 : xs 1 = 2
    · exact (mi_L_count2 (mi_fv_le qA mi_f_0_4) (mi_fv_le qA mi_f_17_14) (mi_fv_le qB mi_f_55_0) (mi_fv_le qB mi_f_55_34) a1 h2)
    by_cases h3 : xs 1 = 3
    · exact (mi_L_count3 (mi_fv_le qA mi_f_0_10) (mi_fv_le qB mi_f_55_0) (mi_fv_le qB mi_f_55_2) a1 h3)
    by_cases h4 : xs 1 = 4
    · exact (mi_L_count4 (mi_fv_le qA mi_f_0_9) (mi_fv_le qA mi_f_52_5) (mi_fv_le qB mi_f_55_0) (mi_fv_le qB mi_f_55_9) a1 h4)
    obtain ⟨hx, hy⟩ := mi_cnt h0 h1 h2 h3 h4
    exact (mi_L_count rfl (mi_fv_le qA mi_f_0_10) (mi_fv_le qB mi_f_55_0) hx hy)
  · refine mi_wp_p (pc' := 362) rfl rfl rfl ?_
    exact (mi_L_write rfl (mi_fv_le qA mi_f_0_4) (mi_fv_le qA mi_f_17_14) (mi_fv_le qB mi_f_55_0) (mi_fv_le qB mi_f_55_34))
  · refine mi_wp_p (pc' := 418) rfl rfl rfl ?_
    exact (mi_L_writeConstructor rfl (mi_fv_le qA mi_f_0_4) (mi_fv_le qA mi_f_17_13) (mi_fv_le qB mi_f_55_0) (mi_fv_le qB mi_f_55_30))
  · refine mi_wp_p (pc' := 474) rfl rfl rfl ?_
    exact (mi_L_writeAt rfl (mi_fv_le qA mi_f_0_5) (mi_fv_le qA mi_f_26_7) (mi_fv_le qB mi_f_55_0) (mi_fv_le qB mi_f_55_52))
  · refine mi_wp_p (pc' := 530) rfl rfl rfl ?_
    exact (mi_L_byteAt rfl (mi_fv_le qA mi_f_0_9) (mi_fv_le qA mi_f_52_5) (mi_fv_le qB mi_f_55_0) (mi_fv_le qB mi_f_55_9))
  · refine mi_wp_p (pc' := 586) rfl rfl rfl ?_
    exact (mi_L_measure rfl rfl (mi_fv_le qA mi_f_0_4) (mi_fv_le qA mi_f_17_14) (mi_fv_le qB mi_f_55_0) (mi_fv_le qB mi_f_55_34))
  · refine mi_wp_p (pc' := 654) rfl rfl rfl ?_
    exact (mi_L_uses rfl rfl (mi_fv_le qA mi_f_0_4) (mi_fv_le qA mi_f_17_14) (mi_fv_le qB mi_f_55_0) (mi_fv_le qB mi_f_55_34))
  · refine mi_wp_p (pc' := 722) rfl rfl rfl ?_
    exact (mi_L_covers rfl rfl (mi_fv_le qA mi_f_0_4) (mi_fv_le qA mi_f_17_14) (mi_fv_le qB mi_f_55_0) (mi_fv_le qB mi_f_55_34))
  · refine mi_wp_p (pc' := 797) rfl rfl rfl ?_
    exact (mi_L_meet rfl rfl (mi_fv_le qA mi_f_0_4) (mi_fv_le qA mi_f_17_14) (mi_fv_le qB mi_f_55_0) (mi_fv_le qB mi_f_55_34))
  · refine mi_wp_p (pc' := 865) rfl rfl rfl ?_
    obtain ⟨h3, c1, s1, k1, qC, b1, b3⟩ := mi_eA mi_chk1_l.2.1 qA qB (some (6, xs))
    obtain ⟨h4, c2, s2, k2, b2, b4⟩ := mi_eB mi_chk2_l.2.2.1 qC (some (6, xs))
    have r0 := mi_fv_le qC mi_f_55_0
    exact (mi_L_ask (mi_fv_le qA mi_f_0_10) r0 k1 k2 b1 b2 b3 b4)
  · refine mi_wp_p (pc' := 878) rfl rfl rfl ?_
    obtain ⟨h3, c1, s1, k1, qC, b1, b3⟩ := mi_eA mi_chk1_l.2.2.1 qA qB (some (6, xs))
    obtain ⟨h4, c2, s2, k2, b2, b4⟩ := mi_eB mi_chk2_l.2.2.2.1 qC (some (6, xs))
    have r0 := mi_fv_le qC mi_f_55_0
    exact (mi_L_meanParts (mi_fv_le qA mi_f_0_10) r0 k1 k2 b1 b2 b3 b4)
  · refine mi_wp_p (pc' := 919) rfl rfl rfl ?_
    obtain ⟨h3, c1, s1, k1, qC, b1, b3⟩ := mi_eA mi_chk1_l.2.2.2.1 qA qB (some (6, xs))
    obtain ⟨h4, c2, s2, k2, b2, b4⟩ := mi_eB mi_chk2_l.2.2.2.2.1 qC (some (6, xs))
    have r0 := mi_fv_le qC mi_f_55_0
    exact (mi_L_digest (mi_fv_le qA mi_f_0_10) r0 k1 k2 b1 b2 b3 b4)
set_option maxRecDepth 100000 in
set_option maxHeartbeats 1000000 in
theorem mi_all {L : Nat} {xs : Nat → Int32} (hL : L ≤ 6) : mi_wp (some (L, xs)) 21 mi_ML 0 [(0, .retAddr 3)] [] [] 0 0 mi_Qe := by
  have k0 : mi_wp (some (L, xs)) 20 mi_M0 0 [(0, .ref 0)] [] ([] ++ [mi_fresh 10]) 0 0 (fun z => z = (.inl none, mi_h0, 54, 24825)) := mi_wp_run (Or.inl rfl) (n := 9000) (mi_k0_ok mi_r0_k).1 rfl
  obtain ⟨h1, e1, l1, qA, qB⟩ := mi_both
  have k1 : mi_wp (some (L, xs)) 20 mi_M87 0 [(0, .ref 55)] [] (mi_h0 ++ [mi_fresh 11]) 0 0 (fun z => z = (.inl none, h1, 42, 1279348)) := mi_wp_run (Or.inl rfl) (n := 3000) e1 rfl
  have l0 : mi_h0.length = 55 := (mi_k0_ok mi_r0_k).2
  refine mi_wp_new rfl rfl rfl rfl rfl ?_
  refine mi_wp_p (pc' := 4) rfl rfl rfl ?_
  refine mi_wp_c1 rfl rfl rfl rfl rfl rfl rfl (Nat.le_of_ble_eq_true rfl) k0 ?_
  refine mi_wp_p (pc' := 8) rfl rfl rfl ?_
  refine mi_wp_new rfl rfl rfl rfl l0 ?_
  refine mi_wp_p (pc' := 12) rfl rfl rfl ?_
  refine mi_wp_c1 rfl rfl rfl rfl rfl rfl rfl (Nat.le_of_ble_eq_true rfl) k1 ?_
  refine mi_wp_p (pc' := 16) rfl rfl rfl ?_
  refine mi_wp_p (pc' := 17) rfl rfl rfl ?_
  refine mi_wp_nal rfl rfl l1 (by decide +kernel) ?_
  refine mi_wp_p (pc' := 20) rfl rfl rfl ?_
  refine mi_wp_p (pc' := 21) rfl rfl rfl ?_
  refine mi_wp_p (pc' := 23) rfl rfl rfl ?_
  refine mi_wp_p (pc' := 25) rfl rfl rfl ?_
  refine mi_wp_p (pc' := 26) rfl rfl rfl ?_
  refine mi_wp_slen rfl rfl ?_
  refine mi_wp_p (pc' := 29) rfl rfl rfl ?_
  refine mi_wp_p (pc' := 30) rfl rfl rfl ?_
  by_cases h6 : L < 6
  · refine mi_wp_p (pc' := 939) rfl rfl (mi_br2 (b := true) (t := 939) (mi_lt6 L h6) rfl) ?_
    refine mi_wp_p (pc' := 940) rfl rfl rfl ?_
    have e1 : (Int32.ofInt 1).toNatClampNeg = 1 := by decide +kernel
    have e2 : Int32.ofInt 1 = 1 := by decide +kernel
    exact mi_wp_r rfl rfl rfl rfl ⟨_, _, _, mi_zi e2, by decide, by rw [e1]; decide⟩
  · obtain rfl : L = 6 := by omega
    refine mi_wp_p (pc' := 33) rfl rfl (mi_br2 (b := false) (t := 939) (by decide +kernel) rfl) ?_
    refine mi_wp_p (pc' := 34) rfl rfl rfl ?_
    refine mi_wp_p (pc' := 36) rfl rfl rfl ?_
    refine mi_wp_sld rfl rfl (by decide +kernel) (k := 0) (by decide +kernel) rfl ?_
    refine mi_wp_p (pc' := 39) rfl rfl rfl ?_
    refine mi_wp_p (pc' := 40) rfl rfl rfl ?_
    obtain ⟨k, hk, hx⟩ := mi_and15 (xs 0)
    rw [hx]
    refine mi_wp_q (mi_road qA qB hk hx) (mi_Qe_of ?_ ?_)
    · decide
    · rw [show (Int32.ofInt 1).toNatClampNeg = 1 by decide +kernel]
      decide
