/-! ===== how long a text is, how many turns ===== -/
theorem wrp_len (w : Nat) (e : tr) (l : List Int) : ((wrp (brk w e) l).length : Int) = l.length + 2 * bki w e := by
  unfold wrp bki
  split
  · rw [List.length_cons, List.length_append, List.length_singleton]; omega
  · omega
theorem tbt_wl : ∀ (e : tr) (vs : List Nat), ((tbt vs e).1.length : Int) = wl e
  | .var v, vs => by rw [tbt, wl]; rfl
  | .add (.num t) (.add a (.add b c)), vs => by
    have ha := tbt_wl a vs
    have hb := tbt_wl b (tbt vs a).2
    have w1 := wrp_len 2 a (tbt vs a).1
    have w2 := wrp_len 2 b (tbt (tbt vs a).2 b).1
    have w3 := wrp_len 1 a (tbt vs a).1
    have w4 := wrp_len 0 b (tbt (tbt vs a).2 b).1
    have w5 := wrp_len 3 a (tbt vs a).1
    rw [tbt, wl]
    split
    · simp only [List.length_append, List.length_cons, List.length_nil]; omega
    · split
      · simp only [List.length_append, List.length_cons, List.length_nil]; omega
      · split
        · simp only [List.length_append, List.length_cons, List.length_nil]; omega
        · split <;> rfl
  | .num _, vs => by simp [tbt, wl]
  | .mul _ _, vs => by simp [tbt, wl]
  | .add (.var _) _, vs => by simp [tbt, wl]
  | .add (.add _ _) _, vs => by simp [tbt, wl]
  | .add (.mul _ _) _, vs => by simp [tbt, wl]
  | .add (.num _) (.num _), vs => by simp [tbt, wl]
  | .add (.num _) (.var _), vs => by simp [tbt, wl]
  | .add (.num _) (.mul _ _), vs => by simp [tbt, wl]
  | .add (.num _) (.add _ (.num _)), vs => by simp [tbt, wl]
  | .add (.num _) (.add _ (.var _)), vs => by simp [tbt, wl]
  | .add (.num _) (.add _ (.mul _ _)), vs => by simp [tbt, wl]
/-- trees of nodes: no empty place where a part should be -/
theorem tu_wl {σ : mi_Sg} {Sx : Int → Prop} {T : Int → tr} (H : ty_T σ Sx T) (G : tg7 σ Sx) : ∀ (m : Nat) (n : Int), (tu (T n)).toNat = m → Sx n → tu (T n) ≤ 2 * wl (T n) - 2 := by
  intro m
  induction m using Nat.strongRecOn with
  | ind m ih =>
    intro n hm hn
    obtain ⟨-, -, -, c4, c5, c6, c7⟩ := H.2 n hn
    rcases G n hn with ht | ht | ht | ht | ht | ht | ht
    · rw [c6 (by omega) (by omega), ht, tu_tn, wl_tn]
      simp
    · rw [c6 (by omega) (by omega), ht, tu_tn, wl_tn]
      simp
    · rw [(c5 (by omega)).1, tu, wl]; omega
    · rw [(c5 (by omega)).1, tu, wl]; omega
    · have s0 := kid_T H hn (w := 0) (by omega) (by rw [ht]; decide) (by omega)
      have s1 := kid_T H hn (w := 1) (by omega) (by rw [ht]; decide) (by omega)
      have eT := c6 (by omega) (by omega)
      rw [ht] at eT
      have eu : tu (T n) = 1 + (tu (T (ty_K' σ n 0)) + 2 * bki 2 (T (ty_K' σ n 0))) + 3 + (tu (T (ty_K' σ n 1)) + 2 * bki 2 (T (ty_K' σ n 1))) := by rw [eT, tu_tn]; rfl
      have ew : wl (T n) = 3 + (wl (T (ty_K' σ n 0)) + 2 * bki 2 (T (ty_K' σ n 0))) + (wl (T (ty_K' σ n 1)) + 2 * bki 2 (T (ty_K' σ n 1))) := by rw [eT, wl_tn]; rfl
      have b0 := bki_01 2 (T (ty_K' σ n 0))
      have b1 := bki_01 2 (T (ty_K' σ n 1))
      have t0 := tu_1 (T (ty_K' σ n 0))
      have t1 := tu_1 (T (ty_K' σ n 1))
      have i0 := ih _ (by omega) _ rfl s0
      have i1 := ih _ (by omega) _ rfl s1
      omega
    · have s0 := kid_T H hn (w := 0) (by omega) (by rw [ht]; decide) (by omega)
      have s1 := kid_T H hn (w := 1) (by omega) (by rw [ht]; decide) (by omega)
      have eT := c6 (by omega) (by omega)
      rw [ht] at eT
      have eu : tu (T n) = 1 + (tu (T (ty_K' σ n 0)) + 2 * bki 1 (T (ty_K' σ n 0))) + 4 + (tu (T (ty_K' σ n 1)) + 2 * bki 0 (T (ty_K' σ n 1))) := by rw [eT, tu_tn]; rfl
      have ew : wl (T n) = 4 + (wl (T (ty_K' σ n 0)) + 2 * bki 1 (T (ty_K' σ n 0))) + (wl (T (ty_K' σ n 1)) + 2 * bki 0 (T (ty_K' σ n 1))) := by rw [eT, wl_tn]; rfl
      have b0 := bki_01 1 (T (ty_K' σ n 0))
      have b1 := bki_01 0 (T (ty_K' σ n 1))
      have t0 := tu_1 (T (ty_K' σ n 0))
      have t1 := tu_1 (T (ty_K' σ n 1))
      have i0 := ih _ (by omega) _ rfl s0
      have i1 := ih _ (by omega) _ rfl s1
      omega
    · have s0 := kid_T H hn (w := 0) (by omega) (by rw [ht]; decide) (by omega)
      have eT := c6 (by omega) (by omega)
      rw [ht] at eT
      have eu : tu (T n) = 1 + 1 + (tu (T (ty_K' σ n 0)) + 2 * bki 3 (T (ty_K' σ n 0))) := by rw [eT, tu_tn]; rfl
      have ew : wl (T n) = 5 + (wl (T (ty_K' σ n 0)) + 2 * bki 3 (T (ty_K' σ n 0))) := by rw [eT, wl_tn]; rfl
      have b0 := bki_01 3 (T (ty_K' σ n 0))
      have t0 := tu_1 (T (ty_K' σ n 0))
      have i0 := ih _ (by omega) _ rfl s0
      omega
