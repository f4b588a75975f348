/-! ===== def d : form = d ===== -/
/-- the same tree with other variables -/
def REN (e t : tr) : Prop := ∃ μ : Nat → Nat, t = sb (fun v => .var (μ v)) e ∧ ∀ v w, vin v e → vin w e → μ v = μ w → v = w
theorem pz_sbv {μ : Nat → Nat} : ∀ e : tr, pz (sb (fun v => .var (μ v)) e) = pz e
  | .num _ => rfl
  | .var _ => rfl
  | .add a b => by show pz _ + pz _ = pz a + pz b; rw [pz_sbv a, pz_sbv b]
  | .mul a b => by show pz _ + pz _ = pz a + pz b; rw [pz_sbv a, pz_sbv b]
section KS
variable {X : mi_X} {d : Nat} {h0 : mi_H} {Q : mi_Z → Prop} {σ0 σ : mi_Sg} {ds : List (Int64 × tr)} {E : Int → Int64} {N s0 p : Int} {key : Int64} {l : List (Int × Int × Int)} {Sx : Int → Prop} {T : Int → tr} {u : Int}
/-- a form: behind its steps 43.10 holds its node -/
theorem ks_form {e : tr} (M : MI Sx T σ0 σ ds E N key u) (B0 : mi_sF σ 44 3 = 0 ∧ mi_sF σ 43 10 = 0 ∧ mi_sF σ 48 7 = 0 ∧ mi_sF σ 48 9 = 0 ∧ ∀ j, 0 ≤ j → j < 26 → mi_sA σ 49 j = 0) (S : ST σ s0 (stf 0 0 p e ++ (11, p, 0) :: l)) (p0 : 0 ≤ p) (p1 : p + (tkf 0 e).length ≤ N) (ky : kyp E 0 p e) (hw : wt e) (h6 : ∀ v, vin v e → v < 6) (hp : pz e ≤ 120) (hu : mi_sF σ 9 8 + pz e ≤ 512)
    (K : ∀ Sx' T' σ' nf, MI Sx' T' σ0 σ' ds E N key u → (∀ n, Sx n → Sx' n ∧ T' n = T n) → Sx' nf → REN e (T' nf) → (∀ v, vin v (T' nf) → mi_sA σ' 10 (v : Int) = 4) → mi_sF σ' 43 10 = nf → mi_sF σ' 44 3 = 0 → (∀ j, mi_sA σ' 33 j = mi_sA σ 33 j) → (∀ j, mi_sA σ' 25 j = mi_sA σ 25 j) → mi_sF σ' 9 8 ≤ mi_sF σ 9 8 + pz e → mi_sF σ' 9 11 = mi_sF σ 9 11 → ST σ' (s0 + (stf 0 0 p e).length + 1) l → RH X d h0 Q (s0 + (stf 0 0 p e).length + 1) σ') : RH X d h0 Q s0 σ := by
  refine RH_S fun h hS => ?_
  obtain ⟨C, ⟨G, KK, n14⟩, ⟨o9, o7, o8⟩, hu', hu3⟩ := M
  obtain ⟨z44, z10, v7, v9, r49⟩ := B0
  obtain ⟨⟨kbb, g2, g3, g4⟩, g5, g6, g7⟩ := id G
  have hf := ty_H_f hS
  have hh := ty_H_u hS
  obtain ⟨Sa, Sb⟩ := ST_sp S
  have B : FB Sx T σ := ⟨⟨C.1, C.2.1, ⟨kbb, g2, v9, by omega⟩, fun L a b => Or.inl (r49 L a (by omega)), fun L L' a b _ _ c _ => absurd (r49 L a (by omega)) c⟩, fun i a b => by omega, C.2.2.2.1, hh.2.2.2, hh.1⟩
  refine FE_nil (FE_all (hg e) e rfl hw h6) B g7 p0 (by omega) Sa ky (by omega) (by omega) (by omega) fun S1 T1 σ1 R => ?_
  obtain ⟨C1, kp, hn, ht⟩ := CI_FR C (by omega) R (by omega) hw
  obtain ⟨R1, R2, R3, R4, R5, R6, R7, R8, R9, R10, R11⟩ := R
  have K1 : KF σ σ1 := KF_sx R3.1 R3.2.1 (by omega) (by decide) (by decide)
  have S1' := ST_K K1 Sb
  obtain ⟨⟨s1, s2, s3⟩, ⟨e1, e2, e3⟩, Sr⟩ := ST_c S1'
  have G1 := GI_K G K1
  have v7' : mi_sF σ1 48 7 = 1 := by omega
  refine rh_step s1 s2 s3 G1.1.2.1 e1 e2 e3 (by omega) (ts_form (P := fun _ => True) (d := d + 9) G1.2.1 s1 s2 s3 e2 (by omega) (by omega)) ?_
  rintro σ2 rfl
  have K2 : KF σ (mi_uF (mi_uF (mi_uF σ1 48 7 (mi_sF σ1 48 7 - 1)) 43 10 (mi_sA σ1 51 (mi_sF σ1 48 7 - 1))) 43 11 p) := KF_uF (KF_uF (KF_uF K1 (by decide)) (by decide)) (by decide)
  have K12 : KF σ1 (mi_uF (mi_uF (mi_uF σ1 48 7 (mi_sF σ1 48 7 - 1)) 43 10 (mi_sA σ1 51 (mi_sF σ1 48 7 - 1))) 43 11 p) := KF_uF (KF_uF (KF_uF KF_rf (by decide)) (by decide)) (by decide)
  have e51 : mi_sF σ1 48 7 - 1 = 0 := by omega
  rw [v7] at hn ht
  have lt := fun v (hv : vin v e) => R1.2.2.2.1 (v : Int) (by omega) (by have := h6 v hv; omega)
  have li := R1.2.2.2.2
  refine K (fun n => S1 n ∧ wt (T1 n)) T1 _ (mi_sA σ1 51 0) ⟨CI_s C1 ⟨⟨rfl, rfl⟩, rfl, rfl, rfl, rfl, rfl, rfl⟩, ⟨GI_K G K2, KF_tr KK K2, ?_⟩, ⟨?_, ?_, ?_⟩, (kp u hu').1, ?_⟩ kp hn ⟨fun v => (mi_sA σ1 49 (v : Int)).toNat, ht, fun v w hv hw e => ?_⟩ (fun v hv => ?_) ?_ ?_ (fun j => R3.1.2.1 33 j (by decide)) (fun j => R3.1.2.1 25 j (by decide)) R9 (R3.1.2.2 9 11 (by decide)) (ST_K K12 Sr)
  · show mi_sF σ1 17 14 = _
    exact (R3.1.2.2 17 14 (by decide)).trans n14
  · show mi_sF σ1 43 9 = u
    exact (R3.1.2.2 43 9 (by decide)).trans o9
  · show mi_sF σ1 43 7 = _
    exact (R3.1.2.2 43 7 (by decide)).trans o7
  · show mi_sB σ1 43 8 = key
    exact (sg_B R3.1 43 8).trans o8
  · show mi_sA σ1 10 u = 3
    have gu := C.1.2 _ hu'
    rw [(R3.2.1.2.1 u gu.1.1 gu.1.2).1]; exact hu3
  · have ee : (mi_sA σ1 49 (v : Int)).toNat = (mi_sA σ1 49 (w : Int)).toNat := e
    have a := lt v hv
    have b := lt w hw
    have a' := R10 v hv
    have b' := R10 w hw
    have pa := (R1.1.2 _ (a.resolve_left a').1).1
    have pb := (R1.1.2 _ (b.resolve_left b').1).1
    have := li (v : Int) (w : Int) (by omega) (by have := h6 v hv; omega) (by omega) (by have := h6 w hw; omega) a' (by omega)
    omega
  · show mi_sA σ1 10 (v : Int) = 4
    rw [ht] at hv
    obtain ⟨w, hw, e⟩ := vin_sb _ hv
    have e' : (mi_sA σ1 49 (w : Int)).toNat = v := e
    have a := (lt w hw).resolve_left (R10 w hw)
    have pa := (R1.1.2 _ a.1).1
    rw [show (v : Int) = mi_sA σ1 49 (w : Int) by omega]
    exact a.2
  · rw [mi_FF, if_neg (fun q => absurd q.2 (by decide)), mi_FF, if_pos ⟨rfl, rfl⟩, e51]
  · show mi_sF σ1 44 3 = 0
    exact (R3.1.2.2 44 3 (by decide)).trans z44
/-- def d : form = d -/
theorem ks_own {e : tr} {tk st : Int} (I : KI σ ds E N) (S : ST σ s0 ((10, p, 0) :: (stf 0 0 (p + 3) e ++ (11, p + 3, 0) :: (21, tk, 0) :: (12, st, p) :: l))) (hst : st = s0 + ((stf 0 0 (p + 3) e).length + 2)) (p0 : 0 ≤ p) (p1 : p + 3 + (tkf 0 e).length ≤ N) (p2 : p + 1 < N) (ek : E (p + 1) = key) (t0 : 0 ≤ tk) (t1 : tk < N) (ek2 : E tk = key) (hd : ∀ (i : Nat) (q : Int64 × tr), ds[i]? = some q → q.1 ≠ key) (hn : ds.length < 24) (ky : kyp E 0 (p + 3) e) (hw : wt e) (h6 : ∀ v, vin v e → v < 6) (hp : pz e ≤ 120) (hu : mi_sF σ 9 8 + 1 + pz e ≤ 512) (hr : mi_sF σ 9 11 < 99990000)
    (K : ∀ σ' t, REN e t → KI σ' (ds ++ [(key, t)]) E N → KF σ σ' → mi_sF σ' 9 8 ≤ mi_sF σ 9 8 + (1 + pz e) → mi_sF σ' 9 11 ≤ mi_sF σ 9 11 + 20 → (∀ j, mi_sA σ' 25 j = if j = ds.length * 24 + ds.length then mi_sA σ 25 j + 1 else mi_sA σ 25 j) → ST σ' (s0 + ((stf 0 0 (p + 3) e).length + 4)) l → RH X d h0 Q (s0 + ((stf 0 0 (p + 3) e).length + 4)) σ') : RH X d h0 Q s0 σ := by
  have pz0 := pz_wt hw
  refine ks_begin I S p0 p2 ek hd hn (by omega) fun Sx T σ1 u M B0 u1 f8 f11 r25 S1 => ?_
  refine ks_form M B0 S1 (by omega) (by omega) ky hw h6 hp (by omega) fun S2 T2 σ2 nf M2 kp2 hnf ren mk e10 e44 r33 r25b f8b f11b S2' => ?_
  refine RH_S fun h hS => ?_
  obtain ⟨C, ⟨G, KK, n14⟩, ⟨o9, o7, o8⟩, hu', hu3⟩ := M2
  obtain ⟨⟨kbb, g2, g3, g4⟩, g5, g6, g7⟩ := id G
  have hh := ty_H_u hS
  obtain ⟨⟨s1, s2, s3⟩, ⟨e1, e2, e3⟩, S3⟩ := ST_c S2'
  refine rh_expr s1 s2 s3 g2 e1 e2 e3 (by omega) (te_name (d := d + 10) (ck_name_own (d := d + 8) t0 (by omega) (by omega) (by omega) (by omega) (fun j a b => by omega) (by omega) (by omega) (by rw [g7, o8]; exact ek2))) (fun x σ' q => by rw [q.2]; rfl) ?_
  rintro x σ3 ⟨rfl, rfl⟩
  have K3 : KF σ2 (mi_uA (mi_uA σ2 25 (mi_sF σ2 43 7 * 24 + mi_sF σ2 43 7) (mi_sA σ2 25 (mi_sF σ2 43 7 * 24 + mi_sF σ2 43 7) + 1)) 33 (s0 + 1 + ↑(stf 0 0 (p + 3) e).length + 1) (mi_sF σ2 43 9)) := KF_uA (KF_uA KF_rf (by decide)) (by decide)
  have C3 : CI S2 T2 (mi_uA (mi_uA σ2 25 (mi_sF σ2 43 7 * 24 + mi_sF σ2 43 7) (mi_sA σ2 25 (mi_sF σ2 43 7 * 24 + mi_sF σ2 43 7) + 1)) 33 (s0 + 1 + ↑(stf 0 0 (p + 3) e).length + 1) (mi_sF σ2 43 9)) ds := CI_s C ⟨⟨rfl, rfl⟩, rfl, rfl, rfl, rfl, rfl, rfl⟩
  obtain ⟨⟨w1, w2, w3⟩, ⟨i1, i2, i3⟩, S4⟩ := ST_c (ST_K K3 S3)
  have est : st = s0 + 1 + ↑(stf 0 0 (p + 3) e).length + 1 := by omega
  have e33 : mi_sA (mi_uA (mi_uA σ2 25 (mi_sF σ2 43 7 * 24 + mi_sF σ2 43 7) (mi_sA σ2 25 (mi_sF σ2 43 7 * 24 + mi_sF σ2 43 7) + 1)) 33 (s0 + 1 + ↑(stf 0 0 (p + 3) e).length + 1) (mi_sF σ2 43 9)) 33 st = u := by
    rw [mi_AA, if_pos ⟨rfl, est⟩]; exact o9
  have gu := C.1.2 u hu'
  have tu := (gu.2.2.2.2.1 (Or.inl hu3)).1
  have gn := C.1.2 nf hnf
  obtain ⟨μ, eμ, iμ⟩ := ren
  have hpn : pz (T2 nf) ≤ 120 := by rw [eμ, pz_sbv]; exact hp
  refine rh_step w1 w2 w3 g2 i1 i2 i3 (by omega) (ts_end (d := d + 9) g5 w1 w2 w3 i2 i3 (ke_1 (d := d + 6) (F := .var u.toNat) (t := T2 nf) (key := key) C3 hh.2.2.2 g5 (by omega) (by show st < mi_sF σ2 26 7; omega) s3 g2 g6 hh.2.1 (by rw [e33]; exact gu.1.1) (by rw [e33]; exact gu.1.2) (by rw [e33]; show S2 (mi_sA σ2 12 u); rw [gu.2.1]; exact hu') (by rw [e33]; show T2 (mi_sA σ2 12 u) = _; rw [gu.2.1]; exact tu) (by show 0 < mi_sF σ2 43 10; rw [e10]; exact gn.1.1) (by show mi_sF σ2 43 10 < mi_sF σ2 9 8; rw [e10]; exact gn.1.2) (by show S2 (mi_sA σ2 12 (mi_sF σ2 43 10)); rw [e10, gn.2.1]; exact hnf) (by show T2 (mi_sA σ2 12 (mi_sF σ2 43 10)) = _; rw [e10, gn.2.1]) mk hpn (by show S2 (mi_sF σ2 43 9); rw [o9]; exact hu') (by show mi_sA σ2 10 (mi_sF σ2 43 9) = 3; rw [o9]; exact hu3) (Or.inl (by show (.var u.toNat : tr) = .var (mi_sF σ2 43 9).toNat; rw [o9])) (by show mi_sF σ2 9 11 < _; omega) n14 hn o8)) ?_
  rintro σ' ⟨hC, KF', n', r25c, f8c, f11c, z44⟩
  have Kt : KF σ σ' := KF_tr KK (KF_tr K3 KF')
  have ei : s0 + 1 + ↑(stf 0 0 (p + 3) e).length + 1 + 1 + 1 = s0 + ((stf 0 0 (p + 3) e).length + 4 : Int) := by omega
  rw [ei] at S4 ⊢
  refine K σ' (T2 nf) ⟨μ, eμ, iμ⟩ ⟨hC, GI_K (GI_K G K3) KF', n', z44⟩ Kt ?_ ?_ (fun j => ?_) (ST_K KF' S4)
  · have : mi_sF σ' 9 8 = mi_sF σ2 9 8 := f8c
    omega
  · have : mi_sF σ' 9 11 ≤ mi_sF σ2 9 11 + 4 := f11c
    omega
  · rw [r25c j, mi_AA, if_neg (fun q => absurd q.1 (by decide)), mi_AA, o7]
    by_cases e : j = (ds.length : Int) * 24 + ds.length
    · rw [if_pos ⟨rfl, e⟩, if_pos e, ← e, r25b, r25]
    · rw [if_neg (fun q => e q.2), if_neg e, r25b, r25]
end KS
