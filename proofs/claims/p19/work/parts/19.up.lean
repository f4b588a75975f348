/-! ===== more fuel, and a script that was not known, change no run ===== -/
theorem mi_alen_up {X' : mi_X} {pc c s : Nat} {st : List Value} {h : mi_H} {r : Nat × List Value × mi_H × Nat × Nat} (hh : mi_alen none pc st h c s = some r) : mi_alen X' pc st h c s = some r := by
  unfold mi_alen at hh ⊢
  split at hh
  next k q => exact hh
  next k q =>
    split at hh
    next hA => exact (if_pos hA).trans hh
    next hA => cases hh
  next => cases hh
theorem mi_mem_up {X X' : mi_X} (hX : X = none ∨ X = X') {M : mi_M} {i : Instr} {pc c s : Nat} {st : List Value} {h : mi_H} {r : Nat × List Value × mi_H × Nat × Nat} (hh : mi_mem X M i pc st h c s = some r) : mi_mem X' M i pc st h c s = some r := by
  rcases hX with rfl | rfl
  · cases i
    case iaload =>
      dsimp only [mi_mem] at hh ⊢
      split at hh
      next q hq => exact hh
      next => cases hh
    case arraylength => exact mi_alen_up hh
    case newarray at' => cases at' <;> exact hh
    all_goals exact hh
  · exact hh
theorem mi_mem_3 {X X' : mi_X} {M : mi_M} {i : Instr} {pc c s : Nat} {st : List Value} {h : mi_H} (h3 : mi_ml2 i = 3) : mi_mem X' M i pc st h c s = mi_mem X M i pc st h c s := by
  cases i
  case iaload => exact absurd h3 (by decide)
  case arraylength => exact absurd h3 (by decide)
  case newarray at' => exact absurd h3 (show ¬ (2 : Nat) = 3 by decide)
  all_goals rfl
theorem mi_run_up {X X' : mi_X} (hX : X = none ∨ X = X') : ∀ (n k d : Nat) (M : mi_M) (pc : Nat) (l : mi_L) (st : List Value) (h : mi_H) (c s : Nat) (r : mi_Z), mi_run X n d M pc l st h c s = some r → mi_run X' (n + k) d M pc l st h c s = some r
  | 0, _, _, _, _, _, _, _, _, _, _, hr => by
    rw [mi_run_0] at hr
    cases hr
  | n + 1, k, d, M, pc, l, st, h, c, s, r, hr => by
    have ih := mi_run_up hX n k
    rw [show n + 1 + k = (n + k) + 1 by omega]
    unfold mi_run at hr ⊢
    split at hr
    next t ht =>
      try simp only [ht]
      exact hr
    next ht =>
      try simp only [ht]
      split at hr
      next => cases hr
      next i len hi =>
        try simp only [hi]
        split at hr
        next pc' l' st' hp =>
          try simp only [hp]
          exact ih _ _ _ _ _ _ _ _ _ hr
        next hp =>
          try simp only [hp]
          split at hr
          next v hv =>
            try simp only [hv]
            exact hr
          next hv =>
            try simp only [hv]
            split at hr
            next pc' st' h' c' s' hm =>
              have hm' : (if len = mi_ml2 i then mi_mem X' M i pc st h c s else none) = some (pc', st', h', c', s') := by
                split at hm
                next hl => rw [if_pos hl]; exact mi_mem_up hX hm
                next => cases hm
              try simp only [hm']
              exact ih _ _ _ _ _ _ _ _ _ hr
            next hm =>
              split at hr
              next h3 =>
                have hm' : (if len = mi_ml2 i then mi_mem X' M i pc st h c s else none) = none := by
                  by_cases hl : len = mi_ml2 i
                  · rw [if_pos hl] at hm ⊢
                    rw [mi_mem_3 (X := X) (X' := X') (by omega)]
                    exact hm
                  · rw [if_neg hl]
                try simp only [hm']
                rw [if_pos h3]
                split at hr
                next => cases hr
                next d' =>
                  split at hr
                  next st' he =>
                    try simp only [he]
                    exact ih _ _ _ _ _ _ _ _ _ hr
                  next he =>
                    try simp only [he]
                    split at hr
                    next => cases hr
                    next M' args rest hcal =>
                      try simp only [hcal]
                      split at hr
                      next => cases hr
                      next v h' c' s' hcr =>
                        have hcr' : (if mi_cat args ≤ mi_nL M' then mi_run X' (n + k) d' M' 0 (lv_args 0 args) [] h 0 0 else none) = some (.inl v, h', c', s') := by
                          split at hcr
                          next hl => rw [if_pos hl]; exact ih _ _ _ _ _ _ _ _ _ hcr
                          next => cases hcr
                        try simp only [hcr']
                        exact ih _ _ _ _ _ _ _ _ _ hr
                      next x h' c' s' hcr =>
                        have hcr' : (if mi_cat args ≤ mi_nL M' then mi_run X' (n + k) d' M' 0 (lv_args 0 args) [] h 0 0 else none) = some (.inr x, h', c', s') := by
                          split at hcr
                          next hl => rw [if_pos hl]; exact ih _ _ _ _ _ _ _ _ _ hcr
                          next => cases hcr
                        try simp only [hcr']
                        split at hr
                        next p' hp' =>
                          try simp only [hp']
                          exact ih _ _ _ _ _ _ _ _ _ hr
                        next => cases hr
              next => cases hr
