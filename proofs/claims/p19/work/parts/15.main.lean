/-! ===== a run of the abstract machine is the machine's ===== -/
theorem mi_run_0 {X : mi_X} {d : Nat} {M : mi_M} {pc : Nat} {la : mi_L} {st : List Value} {h : mi_H} {c s : Nat} : mi_run X 0 d M pc la st h c s = none := rfl
theorem mi_dec {M : mi_M} (hM : mi_mok M = true) {pc len : Nat} {i : Instr} (hi : mi_lk (mi_cd M) pc = some (i, len)) : decode (mi_bt M) pc = .ok (i, len) :=
  (mi_mok_spec hM).2.2.2.2.2.2.2.2.1 (pc, (i, len)) (mi_lk_mem hi)
set_option maxHeartbeats 1000000 in
theorem mi_sound (X : mi_X) : ∀ n, mi_S X n
  | 0 => fun d M pc la st h cells slots r hM hrun => by
    rw [mi_run_0] at hrun
    cases hrun
  | n + 1 => fun d M pc la st h cells slots r hM hrun => by
    have ih := mi_sound X n
    unfold mi_run at hrun
    split at hrun
    next t ht =>
      split at hrun
      next hc =>
        cases hrun
        refine ⟨⟨Nat.le_add_right _ _, Nat.le_add_right _ _⟩, ?_⟩
        intro p l e R s m args below meth c H locs Q cn ids D A sz0 ad lv sw ls F hRc hRs hl hn hw hs hend
        obtain ⟨Qc, XC, free, rfl, hfree, hXC⟩ := hend
        exact mi_throw_ok hM F ht hc.1 hc.2 hl.1 hRc hRs hw hs hfree hXC
      next => cases hrun
    next =>
      split at hrun
      next => cases hrun
      next i len hi =>
        have hd : decode (mi_bt M) pc = .ok (i, len) := mi_dec hM hi
        split at hrun
        next pc' l' st' hp =>
          obtain ⟨hle, hW⟩ := ih d M pc' l' st' h cells slots r hM hrun
          refine ⟨hle, ?_⟩
          intro p l e R s m args below meth c H locs Q cn ids D A sz0 ad lv sw ls F hRc hRs hl hn hw hs hend
          exact mi_pure_ok F.1.1 F.1.2.1 hd hp hl hn hs (fun ls' lv' sw' hl' hn' hs' => hW p l e R s m args below meth c H locs Q cn ids D A sz0 ad lv' sw' ls' F hRc hRs hl' hn' hw hs' hend)
        next =>
          split at hrun
          next v hv =>
            split at hrun
            next hlen =>
              cases hrun
              subst hlen
              refine ⟨⟨Nat.le_refl _, Nat.le_refl _⟩, ?_⟩
              intro p l e R s m args below meth c H locs Q cn ids D A sz0 ad lv sw ls F hRc hRs hl hn hw hs hend
              exact hend H locs ad pc ls sw i st (mi_le_rf _) hd hv hs hw
            next => cases hrun
          next =>
            split at hrun
            next pc' st' h' c' s' hmem =>
              split at hmem
              next hlen =>
                obtain ⟨hle, hW⟩ := ih d M pc' la st' h' c' s' r hM hrun
                have hmo := mi_mem_le hmem
                refine ⟨⟨Nat.le_trans hmo.1 hle.1, Nat.le_trans hmo.2 hle.2⟩, ?_⟩
                intro p l e R s m args below meth c H locs Q cn ids D A sz0 ad lv sw ls F hRc hRs hl hn hw hs hend
                exact mi_mem_ok hM F hd hlen (Nat.le_trans hle.1 hRc) (Nat.le_trans hle.2 hRs) hmem hw hs (fun H' locs' ad' sw' hle' hw' hs' => hW p l e R s m args below meth c H' locs' Q cn ids D A sz0 ad' lv sw' ls F hRc hRs hl (mi_rn_mono hle' hn) hw' hs' (mi_End_mono hle' hend))
              next => cases hmem
            next =>
              split at hrun
              next hlen =>
                subst hlen
                split at hrun
                next => cases hrun
                next d' =>
                  split at hrun
                  next st' he =>
                    obtain ⟨hle, hW⟩ := ih (d' + 1) M (pc + 3) la st' h cells slots r hM hrun
                    refine ⟨hle, ?_⟩
                    intro p l e R s m args below meth c H locs Q cn ids D A sz0 ad lv sw ls F hRc hRs hl hn hw hs hend
                    exact mi_easy_ok hM F hd hl.1 (Nat.le_trans hle.1 hRc) (Nat.le_trans hle.2 hRs) he hw hs (fun H' locs' ad' sw' hle' hw' hs' => hW p l e R s m args below meth c H' locs' Q cn ids D A sz0 ad' lv sw' ls F hRc hRs hl (mi_rn_mono hle' hn) hw' hs' (mi_End_mono hle' hend))
                  next =>
                    split at hrun
                    next => cases hrun
                    next M' av rest hcal =>
                      split at hrun
                      next => cases hrun
                      next v h' c' s' hcr =>
                        split at hcr
                        next hcat =>
                          obtain ⟨hle, hW⟩ := ih (d' + 1) M (pc + 3) la (v.toList ++ rest) h' (cells + c') (slots + s') r hM hrun
                          refine ⟨⟨Nat.le_trans (Nat.le_add_right _ _) hle.1, Nat.le_trans (Nat.le_add_right _ _) hle.2⟩, ?_⟩
                          intro p l e R s m args below meth c H locs Q cn ids D A sz0 ad lv sw ls F hRc hRs hl hn hw hs hend
                          exact mi_call_ok ih hM F hd hl.1 hcal hcat hcr (Nat.le_trans hle.1 hRc) (Nat.le_trans hle.2 hRs) hw hs (fun H' locs' ad' sw' hle' hw' hs' => hW p l e R s m args below meth c H' locs' Q cn ids D A sz0 ad' lv sw' ls F hRc hRs hl (mi_rn_mono hle' hn) hw' hs' (mi_End_mono hle' hend))
                        next => cases hcr
                      next x h' c' s' hcr =>
                        split at hcr
                        next hcat =>
                          split at hrun
                          next p' hp' =>
                            split at hp'
                            next hk1 =>
                              obtain ⟨hle, hW⟩ := ih (d' + 1) M p' la [.float 0] h' (cells + c') (slots + s') r hM hrun
                              refine ⟨⟨Nat.le_trans (Nat.le_add_right _ _) hle.1, Nat.le_trans (Nat.le_add_right _ _) hle.2⟩, ?_⟩
                              intro p l e R s m args below meth c H locs Q cn ids D A sz0 ad lv sw ls F hRc hRs hl hn hw hs hend
                              exact mi_callx_ok ih hM F hd hl.1 hcal hcat hk1 hp' hcr (Nat.le_trans hle.1 hRc) (Nat.le_trans hle.2 hRs) hw hs (fun H' locs' ad' sw' hle' hw' hs' => hW p l e R s m args below meth c H' locs' Q cn ids D A sz0 ad' lv sw' ls F hRc hRs hl (mi_rn_mono hle' hn) hw' hs' (mi_End_mono hle' hend))
                            next => cases hp'
                          next => cases hrun
                        next => cases hcr
              next => cases hrun
