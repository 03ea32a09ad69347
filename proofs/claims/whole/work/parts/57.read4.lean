/-! a word's token (written by wip/whole/mkread4.py) -/
def woF (b : Nat → Int32) (a e : Nat) : Int32 := if wdF b a e [115, 107, 105, 108, 108] = 0 then (if wdF b a e [104, 97, 114, 100] = 0 then (if wdF b a e [104, 101, 108, 112] = 0 then (if wdF b a e [110, 117, 109, 98, 101, 114] = 0 then (if wdF b a e [100, 97, 121] = 0 then (if wdF b a e [100, 111, 110, 101] = 0 then (if wdF b a e [116, 101, 97, 99, 104, 101, 115] = 0 then (if wdF b a e [102, 97, 100, 101, 115] = 0 then (if wdF b a e [110, 101, 114, 118, 101, 115] = 0 then (if wdF b a e [111, 114] = 0 then (if wdF b a e [97, 110, 100] = 0 then (if wdF b a e [110, 111, 116] = 0 then 1 else 8) else 7) else 6) else 5) else 4) else 3) else 15) else 14) else 13) else 12) else 11) else 10
set_option maxRecDepth 20000 in
set_option maxHeartbeats 1000000 in
theorem c_wordAt {X : aXt × Value} {mi : Nat → Nat → Int32} {ml : Nat → Nat → Int64} {mr : Nat → Nat → Option Nat} (hM : MRok mr) {n : Nat} (hn : n ≤ 160) (hs : mi 2 0 = nI n) (hX : outOK X) {a e : Nat} (hae : a ≤ e) (hl : e ≤ 170) (he4 : mi 2 4 = nI a) (he5 : mi 2 5 = nI e) : aCW X 6 28 [.ref 2] (HD, mi, ml, mr) (rdI mi ml mr (woF (byN (mi 3) n) a e)) := by
  refine cw_of (cd := cd_X1_wordAt) (nL := 1) rfl rfl ?_
  show aWP _ _ (0, [some (.ref 2)], [], (HD, mi, ml, mr)) _
  refine wp_steps 2 (t' := (2, [some (.ref 2)], [.ref (aSTR + 1), .ref 2], (HD, mi, ml, mr))) rfl ?_
  refine wp_calv (as := [.ref (aSTR + 1)]) rfl rfl rfl (Nat.le_of_ble_eq_true rfl) ⟨by decide, rfl⟩ (c_reads1 hM hn hs hX hae hl he4 he5) (by decide) ?_
  rintro _ _ ⟨rfl, rfl⟩
  show aWP _ _ (3, [some (.ref 2)], [.int (wdF (byN (mi 3) n) a e [115, 107, 105, 108, 108])], (HD, mi, ml, mr)) _
  refine wp_bI rfl (fun c_1 => ?_) (fun c_1 => ?_)
  · have c_1 : (wdF (byN (mi 3) n) a e [115, 107, 105, 108, 108]) = 0 := of_decide_eq_true c_1
    refine wp_steps 2 (t' := (8, [some (.ref 2)], [.ref (aSTR + 2), .ref 2], (HD, mi, ml, mr))) rfl ?_
    refine wp_calv (as := [.ref (aSTR + 2)]) rfl rfl rfl (Nat.le_of_ble_eq_true rfl) ⟨by decide, rfl⟩ (c_reads2 hM hn hs hX hae hl he4 he5) (by decide) ?_
    rintro _ _ ⟨rfl, rfl⟩
    show aWP _ _ (9, [some (.ref 2)], [.int (wdF (byN (mi 3) n) a e [104, 97, 114, 100])], (HD, mi, ml, mr)) _
    refine wp_bI rfl (fun c_2 => ?_) (fun c_2 => ?_)
    · have c_2 : (wdF (byN (mi 3) n) a e [104, 97, 114, 100]) = 0 := of_decide_eq_true c_2
      refine wp_steps 2 (t' := (14, [some (.ref 2)], [.ref (aSTR + 3), .ref 2], (HD, mi, ml, mr))) rfl ?_
      refine wp_calv (as := [.ref (aSTR + 3)]) rfl rfl rfl (Nat.le_of_ble_eq_true rfl) ⟨by decide, rfl⟩ (c_reads3 hM hn hs hX hae hl he4 he5) (by decide) ?_
      rintro _ _ ⟨rfl, rfl⟩
      show aWP _ _ (15, [some (.ref 2)], [.int (wdF (byN (mi 3) n) a e [104, 101, 108, 112])], (HD, mi, ml, mr)) _
      refine wp_bI rfl (fun c_3 => ?_) (fun c_3 => ?_)
      · have c_3 : (wdF (byN (mi 3) n) a e [104, 101, 108, 112]) = 0 := of_decide_eq_true c_3
        refine wp_steps 2 (t' := (20, [some (.ref 2)], [.ref (aSTR + 4), .ref 2], (HD, mi, ml, mr))) rfl ?_
        refine wp_calv (as := [.ref (aSTR + 4)]) rfl rfl rfl (Nat.le_of_ble_eq_true rfl) ⟨by decide, rfl⟩ (c_reads4 hM hn hs hX hae hl he4 he5) (by decide) ?_
        rintro _ _ ⟨rfl, rfl⟩
        show aWP _ _ (21, [some (.ref 2)], [.int (wdF (byN (mi 3) n) a e [110, 117, 109, 98, 101, 114])], (HD, mi, ml, mr)) _
        refine wp_bI rfl (fun c_4 => ?_) (fun c_4 => ?_)
        · have c_4 : (wdF (byN (mi 3) n) a e [110, 117, 109, 98, 101, 114]) = 0 := of_decide_eq_true c_4
          refine wp_steps 2 (t' := (26, [some (.ref 2)], [.ref (aSTR + 5), .ref 2], (HD, mi, ml, mr))) rfl ?_
          refine wp_calv (as := [.ref (aSTR + 5)]) rfl rfl rfl (Nat.le_of_ble_eq_true rfl) ⟨by decide, rfl⟩ (c_reads5 hM hn hs hX hae hl he4 he5) (by decide) ?_
          rintro _ _ ⟨rfl, rfl⟩
          show aWP _ _ (27, [some (.ref 2)], [.int (wdF (byN (mi 3) n) a e [100, 97, 121])], (HD, mi, ml, mr)) _
          refine wp_bI rfl (fun c_5 => ?_) (fun c_5 => ?_)
          · have c_5 : (wdF (byN (mi 3) n) a e [100, 97, 121]) = 0 := of_decide_eq_true c_5
            refine wp_steps 2 (t' := (32, [some (.ref 2)], [.ref (aSTR + 6), .ref 2], (HD, mi, ml, mr))) rfl ?_
            refine wp_calv (as := [.ref (aSTR + 6)]) rfl rfl rfl (Nat.le_of_ble_eq_true rfl) ⟨by decide, rfl⟩ (c_reads6 hM hn hs hX hae hl he4 he5) (by decide) ?_
            rintro _ _ ⟨rfl, rfl⟩
            show aWP _ _ (33, [some (.ref 2)], [.int (wdF (byN (mi 3) n) a e [100, 111, 110, 101])], (HD, mi, ml, mr)) _
            refine wp_bI rfl (fun c_6 => ?_) (fun c_6 => ?_)
            · have c_6 : (wdF (byN (mi 3) n) a e [100, 111, 110, 101]) = 0 := of_decide_eq_true c_6
              refine wp_steps 2 (t' := (38, [some (.ref 2)], [.ref (aSTR + 7), .ref 2], (HD, mi, ml, mr))) rfl ?_
              refine wp_calv (as := [.ref (aSTR + 7)]) rfl rfl rfl (Nat.le_of_ble_eq_true rfl) ⟨by decide, rfl⟩ (c_reads7 hM hn hs hX hae hl he4 he5) (by decide) ?_
              rintro _ _ ⟨rfl, rfl⟩
              show aWP _ _ (39, [some (.ref 2)], [.int (wdF (byN (mi 3) n) a e [116, 101, 97, 99, 104, 101, 115])], (HD, mi, ml, mr)) _
              refine wp_bI rfl (fun c_7 => ?_) (fun c_7 => ?_)
              · have c_7 : (wdF (byN (mi 3) n) a e [116, 101, 97, 99, 104, 101, 115]) = 0 := of_decide_eq_true c_7
                refine wp_steps 2 (t' := (44, [some (.ref 2)], [.ref (aSTR + 8), .ref 2], (HD, mi, ml, mr))) rfl ?_
                refine wp_calv (as := [.ref (aSTR + 8)]) rfl rfl rfl (Nat.le_of_ble_eq_true rfl) ⟨by decide, rfl⟩ (c_reads8 hM hn hs hX hae hl he4 he5) (by decide) ?_
                rintro _ _ ⟨rfl, rfl⟩
                show aWP _ _ (45, [some (.ref 2)], [.int (wdF (byN (mi 3) n) a e [102, 97, 100, 101, 115])], (HD, mi, ml, mr)) _
                refine wp_bI rfl (fun c_8 => ?_) (fun c_8 => ?_)
                · have c_8 : (wdF (byN (mi 3) n) a e [102, 97, 100, 101, 115]) = 0 := of_decide_eq_true c_8
                  refine wp_steps 2 (t' := (50, [some (.ref 2)], [.ref (aSTR + 9), .ref 2], (HD, mi, ml, mr))) rfl ?_
                  refine wp_calv (as := [.ref (aSTR + 9)]) rfl rfl rfl (Nat.le_of_ble_eq_true rfl) ⟨by decide, rfl⟩ (c_reads9 hM hn hs hX hae hl he4 he5) (by decide) ?_
                  rintro _ _ ⟨rfl, rfl⟩
                  show aWP _ _ (51, [some (.ref 2)], [.int (wdF (byN (mi 3) n) a e [110, 101, 114, 118, 101, 115])], (HD, mi, ml, mr)) _
                  refine wp_bI rfl (fun c_9 => ?_) (fun c_9 => ?_)
                  · have c_9 : (wdF (byN (mi 3) n) a e [110, 101, 114, 118, 101, 115]) = 0 := of_decide_eq_true c_9
                    refine wp_steps 2 (t' := (56, [some (.ref 2)], [.ref (aSTR + 10), .ref 2], (HD, mi, ml, mr))) rfl ?_
                    refine wp_calv (as := [.ref (aSTR + 10)]) rfl rfl rfl (Nat.le_of_ble_eq_true rfl) ⟨by decide, rfl⟩ (c_reads10 hM hn hs hX hae hl he4 he5) (by decide) ?_
                    rintro _ _ ⟨rfl, rfl⟩
                    show aWP _ _ (57, [some (.ref 2)], [.int (wdF (byN (mi 3) n) a e [111, 114])], (HD, mi, ml, mr)) _
                    refine wp_bI rfl (fun c_10 => ?_) (fun c_10 => ?_)
                    · have c_10 : (wdF (byN (mi 3) n) a e [111, 114]) = 0 := of_decide_eq_true c_10
                      refine wp_steps 2 (t' := (62, [some (.ref 2)], [.ref (aSTR + 11), .ref 2], (HD, mi, ml, mr))) rfl ?_
                      refine wp_calv (as := [.ref (aSTR + 11)]) rfl rfl rfl (Nat.le_of_ble_eq_true rfl) ⟨by decide, rfl⟩ (c_reads11 hM hn hs hX hae hl he4 he5) (by decide) ?_
                      rintro _ _ ⟨rfl, rfl⟩
                      show aWP _ _ (63, [some (.ref 2)], [.int (wdF (byN (mi 3) n) a e [97, 110, 100])], (HD, mi, ml, mr)) _
                      refine wp_bI rfl (fun c_11 => ?_) (fun c_11 => ?_)
                      · have c_11 : (wdF (byN (mi 3) n) a e [97, 110, 100]) = 0 := of_decide_eq_true c_11
                        refine wp_steps 2 (t' := (68, [some (.ref 2)], [.ref (aSTR + 12), .ref 2], (HD, mi, ml, mr))) rfl ?_
                        refine wp_calv (as := [.ref (aSTR + 12)]) rfl rfl rfl (Nat.le_of_ble_eq_true rfl) ⟨by decide, rfl⟩ (c_reads12 hM hn hs hX hae hl he4 he5) (by decide) ?_
                        rintro _ _ ⟨rfl, rfl⟩
                        show aWP _ _ (69, [some (.ref 2)], [.int (wdF (byN (mi 3) n) a e [110, 111, 116])], (HD, mi, ml, mr)) _
                        refine wp_bI rfl (fun c_12 => ?_) (fun c_12 => ?_)
                        · have c_12 : (wdF (byN (mi 3) n) a e [110, 111, 116]) = 0 := of_decide_eq_true c_12
                          refine wp_steps 1 (t' := (73, [some (.ref 2)], [.int 1], (HD, mi, ml, mr))) rfl ?_
                          refine wp_ret rfl rfl ⟨⟨Nat.le_refl _, Nat.le_refl _⟩, ?_⟩
                          exact ⟨by unfold woF; rw [if_pos c_1, if_pos c_2, if_pos c_3, if_pos c_4, if_pos c_5, if_pos c_6, if_pos c_7, if_pos c_8, if_pos c_9, if_pos c_10, if_pos c_11, if_pos c_12], rfl⟩
                        · have c_12 : ¬ ((wdF (byN (mi 3) n) a e [110, 111, 116]) = 0) := of_decide_eq_false c_12
                          refine wp_steps 2 (t' := (73, [some (.ref 2)], [.int 8], (HD, mi, ml, mr))) rfl ?_
                          refine wp_ret rfl rfl ⟨⟨Nat.le_refl _, Nat.le_refl _⟩, ?_⟩
                          exact ⟨by unfold woF; rw [if_pos c_1, if_pos c_2, if_pos c_3, if_pos c_4, if_pos c_5, if_pos c_6, if_pos c_7, if_pos c_8, if_pos c_9, if_pos c_10, if_pos c_11, if_neg c_12], rfl⟩
                      · have c_11 : ¬ ((wdF (byN (mi 3) n) a e [97, 110, 100]) = 0) := of_decide_eq_false c_11
                        refine wp_steps 1 (t' := (65, [some (.ref 2)], [.int 7], (HD, mi, ml, mr))) rfl ?_
                        refine wp_ret rfl rfl ⟨⟨Nat.le_refl _, Nat.le_refl _⟩, ?_⟩
                        exact ⟨by unfold woF; rw [if_pos c_1, if_pos c_2, if_pos c_3, if_pos c_4, if_pos c_5, if_pos c_6, if_pos c_7, if_pos c_8, if_pos c_9, if_pos c_10, if_neg c_11], rfl⟩
                    · have c_10 : ¬ ((wdF (byN (mi 3) n) a e [111, 114]) = 0) := of_decide_eq_false c_10
                      refine wp_steps 1 (t' := (59, [some (.ref 2)], [.int 6], (HD, mi, ml, mr))) rfl ?_
                      refine wp_ret rfl rfl ⟨⟨Nat.le_refl _, Nat.le_refl _⟩, ?_⟩
                      exact ⟨by unfold woF; rw [if_pos c_1, if_pos c_2, if_pos c_3, if_pos c_4, if_pos c_5, if_pos c_6, if_pos c_7, if_pos c_8, if_pos c_9, if_neg c_10], rfl⟩
                  · have c_9 : ¬ ((wdF (byN (mi 3) n) a e [110, 101, 114, 118, 101, 115]) = 0) := of_decide_eq_false c_9
                    refine wp_steps 1 (t' := (53, [some (.ref 2)], [.int 5], (HD, mi, ml, mr))) rfl ?_
                    refine wp_ret rfl rfl ⟨⟨Nat.le_refl _, Nat.le_refl _⟩, ?_⟩
                    exact ⟨by unfold woF; rw [if_pos c_1, if_pos c_2, if_pos c_3, if_pos c_4, if_pos c_5, if_pos c_6, if_pos c_7, if_pos c_8, if_neg c_9], rfl⟩
                · have c_8 : ¬ ((wdF (byN (mi 3) n) a e [102, 97, 100, 101, 115]) = 0) := of_decide_eq_false c_8
                  refine wp_steps 1 (t' := (47, [some (.ref 2)], [.int 4], (HD, mi, ml, mr))) rfl ?_
                  refine wp_ret rfl rfl ⟨⟨Nat.le_refl _, Nat.le_refl _⟩, ?_⟩
                  exact ⟨by unfold woF; rw [if_pos c_1, if_pos c_2, if_pos c_3, if_pos c_4, if_pos c_5, if_pos c_6, if_pos c_7, if_neg c_8], rfl⟩
              · have c_7 : ¬ ((wdF (byN (mi 3) n) a e [116, 101, 97, 99, 104, 101, 115]) = 0) := of_decide_eq_false c_7
                refine wp_steps 1 (t' := (41, [some (.ref 2)], [.int 3], (HD, mi, ml, mr))) rfl ?_
                refine wp_ret rfl rfl ⟨⟨Nat.le_refl _, Nat.le_refl _⟩, ?_⟩
                exact ⟨by unfold woF; rw [if_pos c_1, if_pos c_2, if_pos c_3, if_pos c_4, if_pos c_5, if_pos c_6, if_neg c_7], rfl⟩
            · have c_6 : ¬ ((wdF (byN (mi 3) n) a e [100, 111, 110, 101]) = 0) := of_decide_eq_false c_6
              refine wp_steps 1 (t' := (35, [some (.ref 2)], [.int 15], (HD, mi, ml, mr))) rfl ?_
              refine wp_ret rfl rfl ⟨⟨Nat.le_refl _, Nat.le_refl _⟩, ?_⟩
              exact ⟨by unfold woF; rw [if_pos c_1, if_pos c_2, if_pos c_3, if_pos c_4, if_pos c_5, if_neg c_6], rfl⟩
          · have c_5 : ¬ ((wdF (byN (mi 3) n) a e [100, 97, 121]) = 0) := of_decide_eq_false c_5
            refine wp_steps 1 (t' := (29, [some (.ref 2)], [.int 14], (HD, mi, ml, mr))) rfl ?_
            refine wp_ret rfl rfl ⟨⟨Nat.le_refl _, Nat.le_refl _⟩, ?_⟩
            exact ⟨by unfold woF; rw [if_pos c_1, if_pos c_2, if_pos c_3, if_pos c_4, if_neg c_5], rfl⟩
        · have c_4 : ¬ ((wdF (byN (mi 3) n) a e [110, 117, 109, 98, 101, 114]) = 0) := of_decide_eq_false c_4
          refine wp_steps 1 (t' := (23, [some (.ref 2)], [.int 13], (HD, mi, ml, mr))) rfl ?_
          refine wp_ret rfl rfl ⟨⟨Nat.le_refl _, Nat.le_refl _⟩, ?_⟩
          exact ⟨by unfold woF; rw [if_pos c_1, if_pos c_2, if_pos c_3, if_neg c_4], rfl⟩
      · have c_3 : ¬ ((wdF (byN (mi 3) n) a e [104, 101, 108, 112]) = 0) := of_decide_eq_false c_3
        refine wp_steps 1 (t' := (17, [some (.ref 2)], [.int 12], (HD, mi, ml, mr))) rfl ?_
        refine wp_ret rfl rfl ⟨⟨Nat.le_refl _, Nat.le_refl _⟩, ?_⟩
        exact ⟨by unfold woF; rw [if_pos c_1, if_pos c_2, if_neg c_3], rfl⟩
    · have c_2 : ¬ ((wdF (byN (mi 3) n) a e [104, 97, 114, 100]) = 0) := of_decide_eq_false c_2
      refine wp_steps 1 (t' := (11, [some (.ref 2)], [.int 11], (HD, mi, ml, mr))) rfl ?_
      refine wp_ret rfl rfl ⟨⟨Nat.le_refl _, Nat.le_refl _⟩, ?_⟩
      exact ⟨by unfold woF; rw [if_pos c_1, if_neg c_2], rfl⟩
  · have c_1 : ¬ ((wdF (byN (mi 3) n) a e [115, 107, 105, 108, 108]) = 0) := of_decide_eq_false c_1
    refine wp_steps 1 (t' := (5, [some (.ref 2)], [.int 10], (HD, mi, ml, mr))) rfl ?_
    refine wp_ret rfl rfl ⟨⟨Nat.le_refl _, Nat.le_refl _⟩, ?_⟩
    exact ⟨by unfold woF; rw [if_neg c_1], rfl⟩
