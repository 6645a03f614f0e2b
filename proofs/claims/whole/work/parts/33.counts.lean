/-! ===== the model: counts, what an order would send, forecasts ===== -/
def mnV (s : Int → Int) (n nc : Nat) (w : Int) : Nat → Int
  | 0 => 0
  | j + 1 => mnV s n nc w j + (if (w = 1 ∧ (j : Int) < (nc : Int) ∧ s (28 + 5 * (j : Int) + 0) = 0) ∨ (w = 2 ∧ 0 ≤ s (12 + (j : Int))) ∨ (w ≠ 1 ∧ w ≠ 2 ∧ (j : Int) < (n : Int) ∧ 0 ≤ s (111 + 7 * (j : Int) + 4)) then 1 else 0)
theorem mnV_rng (s : Int → Int) (n nc : Nat) (w : Int) (j : Nat) : 0 ≤ mnV s n nc w j ∧ mnV s n nc w j ≤ j := by
  induction j with
  | zero => exact ⟨Int.le_refl _, Int.le_refl _⟩
  | succ j ih => unfold mnV; split <;> omega
def coV (s : Int → Int) (n nc : Nat) (ps ty w : Int) : Int := if w = 0 then s 0 else if w = 1 ∨ w = 2 ∨ w = 4 then mnV s n nc w 8 else if w = 3 then s 3 else if w = 5 then s 4 else if w = 6 then s 1 else if w = 7 then s 2 else if w = 8 then s 5 else if w = 9 then s 6 else if w = 10 then ps else if w = 11 then ty else if 20 ≤ w ∧ w ≤ 23 then s (8 + w - 20) else -1
theorem gvS_5 (s : Int → Int) (n m nc : Nat) (name one other : Int) (h0 : 0 ≤ name) (h1 : 0 ≤ one) (h2 : 0 ≤ other) (hF : gv1 s n m nc name one other = true → gv2 s n m nc name one other = true → (0 ≤ gvF s n m nc name one other ∧ 0 ≤ gvG s n m nc name one other)) : s 5 ≤ gvS s n m nc name one other 5 ∧ gvS s n m nc name one other 5 ≤ s 5 + 3 := by
  have hk := cfV_rng (gvD s n m nc name one other) n m nc one other
  have h56 := gv_56 s n m nc name one other h0 h1 h2
  have hE : gvC s n m nc name one other 5 ≤ gvE s n m nc name one other 5 ∧ gvE s n m nc name one other 5 ≤ gvC s n m nc name one other 5 + 1 := by
    have h := cfS_5 (gvD s n m nc name one other) n m nc one other
    have e : gvD s n m nc name one other 5 = gvC s n m nc name one other 5 := gvD_lo _ _ _ _ _ _ _ (by decide)
    rw [e] at h
    exact h
  unfold gvS
  by_cases g1 : gv1 s n m nc name one other = true
  · rw [if_pos g1]
    by_cases g2 : gv2 s n m nc name one other = true
    · have hf := hF g1 g2
      rw [if_pos g2]
      by_cases g3 : gvK s n m nc name one other < 0
      · rw [if_pos g3]; omega
      · rw [if_neg g3, gvX, fset_ne _ _ (by omega), fset_ne _ _ (by omega), fset_ne _ _ (by omega), fset_ne _ _ (by omega), fset_ne _ _ (by omega), fset_ne _ _ (by omega), fset_ne _ _ (by omega), fset_ne _ _ (by omega)]; omega
    · rw [if_neg g2]; omega
  · rw [if_neg g1]; omega
def nam3 (a b c : Int) : Prop := (0 ≤ a ∧ a ≤ 7) ∧ (0 ≤ b ∧ b ≤ 7) ∧ (0 ≤ c ∧ c ≤ 7)
def seV (s : Int → Int) (n m nc : Nat) (name one other : Int) : Int := if ¬ ((0 ≤ name ∧ name ≤ 7) ∧ (0 ≤ one ∧ one ≤ 7) ∧ (0 ≤ other ∧ other ≤ 7)) then -1 else if gvV s n m nc name one other < 0 then -2 else gvS s n m nc name one other 5 - s 5
def rsB (I : mIt) (f : Int → Int) : mIt := arS (mdB I (I 157) (I 155 4) (cpF (I 159) (I 156)) (I 158)) 156 (cpF f (cpF (I 159) (I 156)))
def seI (I : mIt) (n m nc : Nat) (name one other : Int) : mIt := if ¬ ((0 ≤ name ∧ name ≤ 7) ∧ (0 ≤ one ∧ one ≤ 7) ∧ (0 ≤ other ∧ other ≤ 7)) then I else rsB I (gvS (I 156) n m nc name one other)
def idI (I : mIt) (n m nc J : Nat) : mIt := rsB I (tkM (I 156) n m nc J).1
def kiV (nm : Int) (J : Nat) : Int := if 0 ≤ nm ∧ nm ≤ 7 then (J : Int) else -1
def kiI (I : mIt) (n m nc : Nat) (nm : Int) (J : Nat) : mIt := if 0 ≤ nm ∧ nm ≤ 7 then rsB I (tkM (I 156) n m nc J).1 else I
set_option maxRecDepth 20000 in
set_option maxHeartbeats 4000000 in
theorem Fn_X6_many (k : Nat) (I : mIt) (P : mPt) (hM : isMd P) (n : Nat) (hn : I 156 3 = n) (hn6 : n ≤ 6) (nc : Nat) (hc : I 156 0 = nc) (hc7 : nc ≤ 7) (w : Int) : WP (k + 1) mX6_many none (0, 0) (Rt (some (.inl (mnV (I 156) n nc w 8))) (lay0, I, P)) 0 [(0, .inr (some 155)), (1, .inl w)] [] (lay0, I, P) := by
  refine r_iconst (d := mX6_many) (pc := 0) (n := 0) dX6_many_0 ?_
  refine r_istore_n (d := mX6_many) (pc := 1) (i := 2) (lv' := [(0, .inr (some 155)), (1, .inl w), (2, .inl 0)]) dX6_many_1 rfl (by decide) rfl rfl ?_
  refine r_iconst (d := mX6_many) (pc := 2) (n := 0) dX6_many_2 ?_
  refine r_istore_n (d := mX6_many) (pc := 3) (i := 3) (lv' := [(0, .inr (some 155)), (1, .inl w), (2, .inl 0), (3, .inl 0)]) dX6_many_3 rfl (by decide) rfl rfl ?_
  have L4 : ∀ j : Nat, j ≤ 8 → WP (k + 1) mX6_many none (0, 0) (Rt (some (.inl (mnV (I 156) n nc w 8))) (lay0, I, P)) 4 [(0, .inr (some 155)), (1, .inl w), (2, .inl (mnV (I 156) n nc w j)), (3, .inl (j : Int))] [] (lay0, I, P) := by
    refine loopN (8) _ (fun j ih4 hj4 => ?_)
    have hmr := mnV_rng (I 156) n nc w j
    refine r_iload_n (d := mX6_many) (pc := 4) (i := 3) (v := (j : Int)) dX6_many_4 rfl rfl ?_
    refine r_bipush (d := mX6_many) (pc := 5) (n := 8) dX6_many_5 ?_
    refine r_icmp_ge (d := mX6_many) (pc := 7) (tgt := 108) dX6_many_7 (by decide) (fun h7 => ?_) (fun h7 => ?_)
    · refine r_iload_n (d := mX6_many) (pc := 108) (i := 2) (v := (mnV (I 156) n nc w j)) dX6_many_108 rfl rfl ?_
      exact r_iret (d := mX6_many) (pc := 109) dX6_many_109 rfl (rtI (by rw [show j = 8 by omega]) (by rfl)) (by decide) (by decide)
    · refine r_iload_n (d := mX6_many) (pc := 10) (i := 2) (v := (mnV (I 156) n nc w j)) dX6_many_10 rfl rfl ?_
      refine r_iload_n (d := mX6_many) (pc := 11) (i := 1) (v := w) dX6_many_11 rfl rfl ?_
      refine r_iconst (d := mX6_many) (pc := 12) (n := 1) dX6_many_12 ?_
      refine r_icmp_ne (d := mX6_many) (pc := 13) (tgt := 47) dX6_many_13 (by decide) (fun h13 => ?_) (fun h13 => ?_)
      · refine r_iload_n (d := mX6_many) (pc := 47) (i := 1) (v := w) dX6_many_47 rfl rfl ?_
        refine r_iconst (d := mX6_many) (pc := 48) (n := 2) dX6_many_48 ?_
        refine r_icmp_ne (d := mX6_many) (pc := 49) (tgt := 72) dX6_many_49 (by decide) (fun h49 => ?_) (fun h49 => ?_)
        · refine r_iload_n (d := mX6_many) (pc := 72) (i := 3) (v := (j : Int)) dX6_many_72 rfl rfl ?_
          refine r_aload_n (d := mX6_many) (pc := 73) (i := 0) (v := 155) dX6_many_73 rfl rfl ?_
          refine r_getRs (d := mX6_many) (pc := 74) (a := 155) (kd := 6) (j := 0) (x := 156) dX6_many_74 flRX6_7 ly155 (by decide) (by decide) rfl hM.1 ?_
          refine r_iconst (d := mX6_many) (pc := 77) (n := 3) dX6_many_77 ?_
          refine r_ialds (d := mX6_many) (pc := 78) (a := 156) (x := (n : Int)) dX6_many_78 ly156 (by decide) (by decide) (hn) ?_
          refine r_icmp_ge (d := mX6_many) (pc := 79) (tgt := 99) dX6_many_79 (by decide) (fun h79 => ?_) (fun h79 => ?_)
          · refine r_iconst (d := mX6_many) (pc := 99) (n := 0) dX6_many_99 ?_
            refine r_iadd (d := mX6_many) (pc := 100) dX6_many_100 ?_
            refine r_istore_n (d := mX6_many) (pc := 101) (i := 2) (lv' := [(0, .inr (some 155)), (1, .inl w), (2, .inl ((mnV (I 156) n nc w j) + 0)), (3, .inl (j : Int))]) dX6_many_101 rfl (by decide) rfl rfl ?_
            refine r_iinc (d := mX6_many) (pc := 102) (i := 3) (v := (j : Int)) (y := ((j + 1 : Nat) : Int)) (lv' := [(0, .inr (some 155)), (1, .inl w), (2, .inl ((mnV (I 156) n nc w j) + 0)), (3, .inl ((j + 1 : Nat) : Int))]) dX6_many_102 rfl (by decide) rfl (by omega) rfl ?_
            refine r_goto (d := mX6_many) (pc := 105) (tgt := 4) dX6_many_105 (by decide) ?_
            exact wpE (by rw [mnV, if_neg (by omega)] <;> simp) rfl (by rfl) (ih4 (by omega) (by omega))
          · refine r_aload_n (d := mX6_many) (pc := 82) (i := 0) (v := 155) dX6_many_82 rfl rfl ?_
            refine r_getRs (d := mX6_many) (pc := 83) (a := 155) (kd := 6) (j := 0) (x := 156) dX6_many_83 flRX6_7 ly155 (by decide) (by decide) rfl hM.1 ?_
            refine r_iload_n (d := mX6_many) (pc := 86) (i := 3) (v := (j : Int)) dX6_many_86 rfl rfl ?_
            refine r_iconst (d := mX6_many) (pc := 87) (n := 4) dX6_many_87 ?_
            refine r_cS2 (d := mX6_many) (pc := 88) (dj := mX6_ofOrder) dX6_many_88 mlRX6_47 staX6_ofOrder okX6_ofOrder (by decide) rfl (Nat.le_of_ble_eq_true rfl) (by decide) (by decide) (Fn_X6_ofOrder k I P (j : Int) 4 (by omega) (by omega) (by omega) (by omega)) ?_
            refine r_ialds (d := mX6_many) (pc := 91) (a := 156) (x := (I 156 (111 + 7 * (j : Int) + 4))) dX6_many_91 ly156 (by omega) (by omega) (rfl) ?_
            refine r_if_lt (d := mX6_many) (pc := 92) (tgt := 99) dX6_many_92 (by decide) (fun h92 => ?_) (fun h92 => ?_)
            · refine r_iconst (d := mX6_many) (pc := 99) (n := 0) dX6_many_99 ?_
              refine r_iadd (d := mX6_many) (pc := 100) dX6_many_100 ?_
              refine r_istore_n (d := mX6_many) (pc := 101) (i := 2) (lv' := [(0, .inr (some 155)), (1, .inl w), (2, .inl ((mnV (I 156) n nc w j) + 0)), (3, .inl (j : Int))]) dX6_many_101 rfl (by decide) rfl rfl ?_
              refine r_iinc (d := mX6_many) (pc := 102) (i := 3) (v := (j : Int)) (y := ((j + 1 : Nat) : Int)) (lv' := [(0, .inr (some 155)), (1, .inl w), (2, .inl ((mnV (I 156) n nc w j) + 0)), (3, .inl ((j + 1 : Nat) : Int))]) dX6_many_102 rfl (by decide) rfl (by omega) rfl ?_
              refine r_goto (d := mX6_many) (pc := 105) (tgt := 4) dX6_many_105 (by decide) ?_
              exact wpE (by rw [mnV, if_neg (by omega)] <;> simp) rfl (by rfl) (ih4 (by omega) (by omega))
            · refine r_iconst (d := mX6_many) (pc := 95) (n := 1) dX6_many_95 ?_
              refine r_goto (d := mX6_many) (pc := 96) (tgt := 100) dX6_many_96 (by decide) ?_
              refine r_iadd (d := mX6_many) (pc := 100) dX6_many_100 ?_
              refine r_istore_n (d := mX6_many) (pc := 101) (i := 2) (lv' := [(0, .inr (some 155)), (1, .inl w), (2, .inl ((mnV (I 156) n nc w j) + 1)), (3, .inl (j : Int))]) dX6_many_101 rfl (by decide) rfl rfl ?_
              refine r_iinc (d := mX6_many) (pc := 102) (i := 3) (v := (j : Int)) (y := ((j + 1 : Nat) : Int)) (lv' := [(0, .inr (some 155)), (1, .inl w), (2, .inl ((mnV (I 156) n nc w j) + 1)), (3, .inl ((j + 1 : Nat) : Int))]) dX6_many_102 rfl (by decide) rfl (by omega) rfl ?_
              refine r_goto (d := mX6_many) (pc := 105) (tgt := 4) dX6_many_105 (by decide) ?_
              exact wpE (by rw [mnV, if_pos (by omega)] <;> simp) rfl (by rfl) (ih4 (by omega) (by omega))
        · refine r_aload_n (d := mX6_many) (pc := 52) (i := 0) (v := 155) dX6_many_52 rfl rfl ?_
          refine r_getRs (d := mX6_many) (pc := 53) (a := 155) (kd := 6) (j := 0) (x := 156) dX6_many_53 flRX6_7 ly155 (by decide) (by decide) rfl hM.1 ?_
          refine r_bipush (d := mX6_many) (pc := 56) (n := 12) dX6_many_56 ?_
          refine r_iload_n (d := mX6_many) (pc := 58) (i := 3) (v := (j : Int)) dX6_many_58 rfl rfl ?_
          refine r_iadd (d := mX6_many) (pc := 59) dX6_many_59 ?_
          refine r_ialds (d := mX6_many) (pc := 60) (a := 156) (x := (I 156 (12 + (j : Int)))) dX6_many_60 ly156 (by omega) (by omega) (rfl) ?_
          refine r_if_lt (d := mX6_many) (pc := 61) (tgt := 68) dX6_many_61 (by decide) (fun h61 => ?_) (fun h61 => ?_)
          · refine r_iconst (d := mX6_many) (pc := 68) (n := 0) dX6_many_68 ?_
            refine r_goto (d := mX6_many) (pc := 69) (tgt := 100) dX6_many_69 (by decide) ?_
            refine r_iadd (d := mX6_many) (pc := 100) dX6_many_100 ?_
            refine r_istore_n (d := mX6_many) (pc := 101) (i := 2) (lv' := [(0, .inr (some 155)), (1, .inl w), (2, .inl ((mnV (I 156) n nc w j) + 0)), (3, .inl (j : Int))]) dX6_many_101 rfl (by decide) rfl rfl ?_
            refine r_iinc (d := mX6_many) (pc := 102) (i := 3) (v := (j : Int)) (y := ((j + 1 : Nat) : Int)) (lv' := [(0, .inr (some 155)), (1, .inl w), (2, .inl ((mnV (I 156) n nc w j) + 0)), (3, .inl ((j + 1 : Nat) : Int))]) dX6_many_102 rfl (by decide) rfl (by omega) rfl ?_
            refine r_goto (d := mX6_many) (pc := 105) (tgt := 4) dX6_many_105 (by decide) ?_
            exact wpE (by rw [mnV, if_neg (by omega)] <;> simp) rfl (by rfl) (ih4 (by omega) (by omega))
          · refine r_iconst (d := mX6_many) (pc := 64) (n := 1) dX6_many_64 ?_
            refine r_goto (d := mX6_many) (pc := 65) (tgt := 100) dX6_many_65 (by decide) ?_
            refine r_iadd (d := mX6_many) (pc := 100) dX6_many_100 ?_
            refine r_istore_n (d := mX6_many) (pc := 101) (i := 2) (lv' := [(0, .inr (some 155)), (1, .inl w), (2, .inl ((mnV (I 156) n nc w j) + 1)), (3, .inl (j : Int))]) dX6_many_101 rfl (by decide) rfl rfl ?_
            refine r_iinc (d := mX6_many) (pc := 102) (i := 3) (v := (j : Int)) (y := ((j + 1 : Nat) : Int)) (lv' := [(0, .inr (some 155)), (1, .inl w), (2, .inl ((mnV (I 156) n nc w j) + 1)), (3, .inl ((j + 1 : Nat) : Int))]) dX6_many_102 rfl (by decide) rfl (by omega) rfl ?_
            refine r_goto (d := mX6_many) (pc := 105) (tgt := 4) dX6_many_105 (by decide) ?_
            exact wpE (by rw [mnV, if_pos (by omega)] <;> simp) rfl (by rfl) (ih4 (by omega) (by omega))
      · refine r_iload_n (d := mX6_many) (pc := 16) (i := 3) (v := (j : Int)) dX6_many_16 rfl rfl ?_
        refine r_aload_n (d := mX6_many) (pc := 17) (i := 0) (v := 155) dX6_many_17 rfl rfl ?_
        refine r_getRs (d := mX6_many) (pc := 18) (a := 155) (kd := 6) (j := 0) (x := 156) dX6_many_18 flRX6_7 ly155 (by decide) (by decide) rfl hM.1 ?_
        refine r_iconst (d := mX6_many) (pc := 21) (n := 0) dX6_many_21 ?_
        refine r_ialds (d := mX6_many) (pc := 22) (a := 156) (x := (nc : Int)) dX6_many_22 ly156 (by decide) (by decide) (hc) ?_
        refine r_icmp_ge (d := mX6_many) (pc := 23) (tgt := 43) dX6_many_23 (by decide) (fun h23 => ?_) (fun h23 => ?_)
        · refine r_iconst (d := mX6_many) (pc := 43) (n := 0) dX6_many_43 ?_
          refine r_goto (d := mX6_many) (pc := 44) (tgt := 100) dX6_many_44 (by decide) ?_
          refine r_iadd (d := mX6_many) (pc := 100) dX6_many_100 ?_
          refine r_istore_n (d := mX6_many) (pc := 101) (i := 2) (lv' := [(0, .inr (some 155)), (1, .inl w), (2, .inl ((mnV (I 156) n nc w j) + 0)), (3, .inl (j : Int))]) dX6_many_101 rfl (by decide) rfl rfl ?_
          refine r_iinc (d := mX6_many) (pc := 102) (i := 3) (v := (j : Int)) (y := ((j + 1 : Nat) : Int)) (lv' := [(0, .inr (some 155)), (1, .inl w), (2, .inl ((mnV (I 156) n nc w j) + 0)), (3, .inl ((j + 1 : Nat) : Int))]) dX6_many_102 rfl (by decide) rfl (by omega) rfl ?_
          refine r_goto (d := mX6_many) (pc := 105) (tgt := 4) dX6_many_105 (by decide) ?_
          exact wpE (by rw [mnV, if_neg (by omega)] <;> simp) rfl (by rfl) (ih4 (by omega) (by omega))
        · refine r_aload_n (d := mX6_many) (pc := 26) (i := 0) (v := 155) dX6_many_26 rfl rfl ?_
          refine r_getRs (d := mX6_many) (pc := 27) (a := 155) (kd := 6) (j := 0) (x := 156) dX6_many_27 flRX6_7 ly155 (by decide) (by decide) rfl hM.1 ?_
          refine r_iload_n (d := mX6_many) (pc := 30) (i := 3) (v := (j : Int)) dX6_many_30 rfl rfl ?_
          refine r_iconst (d := mX6_many) (pc := 31) (n := 0) dX6_many_31 ?_
          refine r_cS2 (d := mX6_many) (pc := 32) (dj := mX6_at) dX6_many_32 mlRX6_65 staX6_at okX6_at (by decide) rfl (Nat.le_of_ble_eq_true rfl) (by decide) (by decide) (Fn_X6_at k I P (j : Int) 0 (by omega) (by omega) (by omega) (by omega)) ?_
          refine r_ialds (d := mX6_many) (pc := 35) (a := 156) (x := (I 156 (28 + 5 * (j : Int) + 0))) dX6_many_35 ly156 (by omega) (by omega) (rfl) ?_
          refine r_if_ne (d := mX6_many) (pc := 36) (tgt := 43) dX6_many_36 (by decide) (fun h36 => ?_) (fun h36 => ?_)
          · refine r_iconst (d := mX6_many) (pc := 43) (n := 0) dX6_many_43 ?_
            refine r_goto (d := mX6_many) (pc := 44) (tgt := 100) dX6_many_44 (by decide) ?_
            refine r_iadd (d := mX6_many) (pc := 100) dX6_many_100 ?_
            refine r_istore_n (d := mX6_many) (pc := 101) (i := 2) (lv' := [(0, .inr (some 155)), (1, .inl w), (2, .inl ((mnV (I 156) n nc w j) + 0)), (3, .inl (j : Int))]) dX6_many_101 rfl (by decide) rfl rfl ?_
            refine r_iinc (d := mX6_many) (pc := 102) (i := 3) (v := (j : Int)) (y := ((j + 1 : Nat) : Int)) (lv' := [(0, .inr (some 155)), (1, .inl w), (2, .inl ((mnV (I 156) n nc w j) + 0)), (3, .inl ((j + 1 : Nat) : Int))]) dX6_many_102 rfl (by decide) rfl (by omega) rfl ?_
            refine r_goto (d := mX6_many) (pc := 105) (tgt := 4) dX6_many_105 (by decide) ?_
            exact wpE (by rw [mnV, if_neg (by omega)] <;> simp) rfl (by rfl) (ih4 (by omega) (by omega))
          · refine r_iconst (d := mX6_many) (pc := 39) (n := 1) dX6_many_39 ?_
            refine r_goto (d := mX6_many) (pc := 40) (tgt := 100) dX6_many_40 (by decide) ?_
            refine r_iadd (d := mX6_many) (pc := 100) dX6_many_100 ?_
            refine r_istore_n (d := mX6_many) (pc := 101) (i := 2) (lv' := [(0, .inr (some 155)), (1, .inl w), (2, .inl ((mnV (I 156) n nc w j) + 1)), (3, .inl (j : Int))]) dX6_many_101 rfl (by decide) rfl rfl ?_
            refine r_iinc (d := mX6_many) (pc := 102) (i := 3) (v := (j : Int)) (y := ((j + 1 : Nat) : Int)) (lv' := [(0, .inr (some 155)), (1, .inl w), (2, .inl ((mnV (I 156) n nc w j) + 1)), (3, .inl ((j + 1 : Nat) : Int))]) dX6_many_102 rfl (by decide) rfl (by omega) rfl ?_
            refine r_goto (d := mX6_many) (pc := 105) (tgt := 4) dX6_many_105 (by decide) ?_
            exact wpE (by rw [mnV, if_pos (by omega)] <;> simp) rfl (by rfl) (ih4 (by omega) (by omega))
  exact wpE (by simp [mnV]) rfl (by rfl) (L4 0 (by omega))
set_option maxRecDepth 20000 in
set_option maxHeartbeats 4000000 in
theorem Fn_X6_count (k : Nat) (I : mIt) (P : mPt) (hM : isMd P) (n : Nat) (hn : I 156 3 = n) (hn6 : n ≤ 6) (nc : Nat) (hc : I 156 0 = nc) (hc7 : nc ≤ 7) (w : Int) : WP (k + 2) mX6_count none (0, 0) (Rt (some (.inl (coV (I 156) n nc (I 155 4) (I 155 7) w))) (lay0, I, P)) 0 [(0, .inr (some 155)), (1, .inl w)] [] (lay0, I, P) := by
  refine r_iload_n (d := mX6_count) (pc := 0) (i := 1) (v := w) dX6_count_0 rfl rfl ?_
  by_cases hs1_0 : w = 0
  · rw [hs1_0]
    refine r_tableIn (d := mX6_count) (pc := 1) (tgt := 112) (off := 111) dX6_count_1 (by decide) (by decide) rfl (by decide) ?_
    refine r_aload_n (d := mX6_count) (pc := 112) (i := 0) (v := 155) dX6_count_112 rfl rfl ?_
    refine r_getRs (d := mX6_count) (pc := 113) (a := 155) (kd := 6) (j := 0) (x := 156) dX6_count_113 flRX6_7 ly155 (by decide) (by decide) rfl hM.1 ?_
    refine r_iconst (d := mX6_count) (pc := 116) (n := 0) dX6_count_116 ?_
    refine r_ialds (d := mX6_count) (pc := 117) (a := 156) (x := (I 156 0)) dX6_count_117 ly156 (by decide) (by decide) (rfl) ?_
    exact r_iret (d := mX6_count) (pc := 118) dX6_count_118 rfl (rtI (by unfold coV; repeat (first | rw [if_pos (by first | assumption | omega)] | rw [if_neg (by first | assumption | omega)])) (by rfl)) (by decide) (by decide)
  by_cases hs1_1 : w = 1
  · rw [hs1_1]
    refine r_tableIn (d := mX6_count) (pc := 1) (tgt := 119) (off := 118) dX6_count_1 (by decide) (by decide) rfl (by decide) ?_
    refine r_aload_n (d := mX6_count) (pc := 119) (i := 0) (v := 155) dX6_count_119 rfl rfl ?_
    refine r_iload_n (d := mX6_count) (pc := 120) (i := 1) (v := 1) dX6_count_120 rfl rfl ?_
    refine r_cV1 (d := mX6_count) (pc := 121) (dj := mX6_many) (a := 155) (kd := 6) dX6_count_121 mlRX6_132 inX6_many selX6_many rfl ly155 (by decide) okX6_many (by decide) rfl (Nat.le_of_ble_eq_true rfl) (by decide) (by decide) (Fn_X6_many k I P hM n hn hn6 nc hc hc7 1) ?_
    exact r_iret (d := mX6_count) (pc := 124) dX6_count_124 rfl (rtI (by unfold coV; repeat (first | rw [if_pos (by first | assumption | omega)] | rw [if_neg (by first | assumption | omega)])) (by rfl)) (by decide) (by decide)
  by_cases hs1_2 : w = 2
  · rw [hs1_2]
    refine r_tableIn (d := mX6_count) (pc := 1) (tgt := 119) (off := 118) dX6_count_1 (by decide) (by decide) rfl (by decide) ?_
    refine r_aload_n (d := mX6_count) (pc := 119) (i := 0) (v := 155) dX6_count_119 rfl rfl ?_
    refine r_iload_n (d := mX6_count) (pc := 120) (i := 1) (v := 2) dX6_count_120 rfl rfl ?_
    refine r_cV1 (d := mX6_count) (pc := 121) (dj := mX6_many) (a := 155) (kd := 6) dX6_count_121 mlRX6_132 inX6_many selX6_many rfl ly155 (by decide) okX6_many (by decide) rfl (Nat.le_of_ble_eq_true rfl) (by decide) (by decide) (Fn_X6_many k I P hM n hn hn6 nc hc hc7 2) ?_
    exact r_iret (d := mX6_count) (pc := 124) dX6_count_124 rfl (rtI (by unfold coV; repeat (first | rw [if_pos (by first | assumption | omega)] | rw [if_neg (by first | assumption | omega)])) (by rfl)) (by decide) (by decide)
  by_cases hs1_3 : w = 3
  · rw [hs1_3]
    refine r_tableIn (d := mX6_count) (pc := 1) (tgt := 125) (off := 124) dX6_count_1 (by decide) (by decide) rfl (by decide) ?_
    refine r_aload_n (d := mX6_count) (pc := 125) (i := 0) (v := 155) dX6_count_125 rfl rfl ?_
    refine r_getRs (d := mX6_count) (pc := 126) (a := 155) (kd := 6) (j := 0) (x := 156) dX6_count_126 flRX6_7 ly155 (by decide) (by decide) rfl hM.1 ?_
    refine r_iconst (d := mX6_count) (pc := 129) (n := 3) dX6_count_129 ?_
    refine r_ialds (d := mX6_count) (pc := 130) (a := 156) (x := (I 156 3)) dX6_count_130 ly156 (by decide) (by decide) (rfl) ?_
    exact r_iret (d := mX6_count) (pc := 131) dX6_count_131 rfl (rtI (by unfold coV; repeat (first | rw [if_pos (by first | assumption | omega)] | rw [if_neg (by first | assumption | omega)])) (by rfl)) (by decide) (by decide)
  by_cases hs1_4 : w = 4
  · rw [hs1_4]
    refine r_tableIn (d := mX6_count) (pc := 1) (tgt := 119) (off := 118) dX6_count_1 (by decide) (by decide) rfl (by decide) ?_
    refine r_aload_n (d := mX6_count) (pc := 119) (i := 0) (v := 155) dX6_count_119 rfl rfl ?_
    refine r_iload_n (d := mX6_count) (pc := 120) (i := 1) (v := 4) dX6_count_120 rfl rfl ?_
    refine r_cV1 (d := mX6_count) (pc := 121) (dj := mX6_many) (a := 155) (kd := 6) dX6_count_121 mlRX6_132 inX6_many selX6_many rfl ly155 (by decide) okX6_many (by decide) rfl (Nat.le_of_ble_eq_true rfl) (by decide) (by decide) (Fn_X6_many k I P hM n hn hn6 nc hc hc7 4) ?_
    exact r_iret (d := mX6_count) (pc := 124) dX6_count_124 rfl (rtI (by unfold coV; repeat (first | rw [if_pos (by first | assumption | omega)] | rw [if_neg (by first | assumption | omega)])) (by rfl)) (by decide) (by decide)
  by_cases hs1_5 : w = 5
  · rw [hs1_5]
    refine r_tableIn (d := mX6_count) (pc := 1) (tgt := 132) (off := 131) dX6_count_1 (by decide) (by decide) rfl (by decide) ?_
    refine r_aload_n (d := mX6_count) (pc := 132) (i := 0) (v := 155) dX6_count_132 rfl rfl ?_
    refine r_getRs (d := mX6_count) (pc := 133) (a := 155) (kd := 6) (j := 0) (x := 156) dX6_count_133 flRX6_7 ly155 (by decide) (by decide) rfl hM.1 ?_
    refine r_iconst (d := mX6_count) (pc := 136) (n := 4) dX6_count_136 ?_
    refine r_ialds (d := mX6_count) (pc := 137) (a := 156) (x := (I 156 4)) dX6_count_137 ly156 (by decide) (by decide) (rfl) ?_
    exact r_iret (d := mX6_count) (pc := 138) dX6_count_138 rfl (rtI (by unfold coV; repeat (first | rw [if_pos (by first | assumption | omega)] | rw [if_neg (by first | assumption | omega)])) (by rfl)) (by decide) (by decide)
  by_cases hs1_6 : w = 6
  · rw [hs1_6]
    refine r_tableIn (d := mX6_count) (pc := 1) (tgt := 139) (off := 138) dX6_count_1 (by decide) (by decide) rfl (by decide) ?_
    refine r_aload_n (d := mX6_count) (pc := 139) (i := 0) (v := 155) dX6_count_139 rfl rfl ?_
    refine r_getRs (d := mX6_count) (pc := 140) (a := 155) (kd := 6) (j := 0) (x := 156) dX6_count_140 flRX6_7 ly155 (by decide) (by decide) rfl hM.1 ?_
    refine r_iconst (d := mX6_count) (pc := 143) (n := 1) dX6_count_143 ?_
    refine r_ialds (d := mX6_count) (pc := 144) (a := 156) (x := (I 156 1)) dX6_count_144 ly156 (by decide) (by decide) (rfl) ?_
    exact r_iret (d := mX6_count) (pc := 145) dX6_count_145 rfl (rtI (by unfold coV; repeat (first | rw [if_pos (by first | assumption | omega)] | rw [if_neg (by first | assumption | omega)])) (by rfl)) (by decide) (by decide)
  by_cases hs1_7 : w = 7
  · rw [hs1_7]
    refine r_tableIn (d := mX6_count) (pc := 1) (tgt := 146) (off := 145) dX6_count_1 (by decide) (by decide) rfl (by decide) ?_
    refine r_aload_n (d := mX6_count) (pc := 146) (i := 0) (v := 155) dX6_count_146 rfl rfl ?_
    refine r_getRs (d := mX6_count) (pc := 147) (a := 155) (kd := 6) (j := 0) (x := 156) dX6_count_147 flRX6_7 ly155 (by decide) (by decide) rfl hM.1 ?_
    refine r_iconst (d := mX6_count) (pc := 150) (n := 2) dX6_count_150 ?_
    refine r_ialds (d := mX6_count) (pc := 151) (a := 156) (x := (I 156 2)) dX6_count_151 ly156 (by decide) (by decide) (rfl) ?_
    exact r_iret (d := mX6_count) (pc := 152) dX6_count_152 rfl (rtI (by unfold coV; repeat (first | rw [if_pos (by first | assumption | omega)] | rw [if_neg (by first | assumption | omega)])) (by rfl)) (by decide) (by decide)
  by_cases hs1_8 : w = 8
  · rw [hs1_8]
    refine r_tableIn (d := mX6_count) (pc := 1) (tgt := 153) (off := 152) dX6_count_1 (by decide) (by decide) rfl (by decide) ?_
    refine r_aload_n (d := mX6_count) (pc := 153) (i := 0) (v := 155) dX6_count_153 rfl rfl ?_
    refine r_getRs (d := mX6_count) (pc := 154) (a := 155) (kd := 6) (j := 0) (x := 156) dX6_count_154 flRX6_7 ly155 (by decide) (by decide) rfl hM.1 ?_
    refine r_iconst (d := mX6_count) (pc := 157) (n := 5) dX6_count_157 ?_
    refine r_ialds (d := mX6_count) (pc := 158) (a := 156) (x := (I 156 5)) dX6_count_158 ly156 (by decide) (by decide) (rfl) ?_
    exact r_iret (d := mX6_count) (pc := 159) dX6_count_159 rfl (rtI (by unfold coV; repeat (first | rw [if_pos (by first | assumption | omega)] | rw [if_neg (by first | assumption | omega)])) (by rfl)) (by decide) (by decide)
  by_cases hs1_9 : w = 9
  · rw [hs1_9]
    refine r_tableIn (d := mX6_count) (pc := 1) (tgt := 160) (off := 159) dX6_count_1 (by decide) (by decide) rfl (by decide) ?_
    refine r_aload_n (d := mX6_count) (pc := 160) (i := 0) (v := 155) dX6_count_160 rfl rfl ?_
    refine r_getRs (d := mX6_count) (pc := 161) (a := 155) (kd := 6) (j := 0) (x := 156) dX6_count_161 flRX6_7 ly155 (by decide) (by decide) rfl hM.1 ?_
    refine r_bipush (d := mX6_count) (pc := 164) (n := 6) dX6_count_164 ?_
    refine r_ialds (d := mX6_count) (pc := 166) (a := 156) (x := (I 156 6)) dX6_count_166 ly156 (by decide) (by decide) (rfl) ?_
    exact r_iret (d := mX6_count) (pc := 167) dX6_count_167 rfl (rtI (by unfold coV; repeat (first | rw [if_pos (by first | assumption | omega)] | rw [if_neg (by first | assumption | omega)])) (by rfl)) (by decide) (by decide)
  by_cases hs1_10 : w = 10
  · rw [hs1_10]
    refine r_tableIn (d := mX6_count) (pc := 1) (tgt := 168) (off := 167) dX6_count_1 (by decide) (by decide) rfl (by decide) ?_
    refine r_aload_n (d := mX6_count) (pc := 168) (i := 0) (v := 155) dX6_count_168 rfl rfl ?_
    refine r_getIs (d := mX6_count) (pc := 169) (a := 155) (kd := 6) (j := 4) (x := (I 155 4)) dX6_count_169 flRX6_39 ly155 (by decide) (by decide) rfl (rfl) ?_
    exact r_iret (d := mX6_count) (pc := 172) dX6_count_172 rfl (rtI (by unfold coV; repeat (first | rw [if_pos (by first | assumption | omega)] | rw [if_neg (by first | assumption | omega)])) (by rfl)) (by decide) (by decide)
  by_cases hs1_11 : w = 11
  · rw [hs1_11]
    refine r_tableIn (d := mX6_count) (pc := 1) (tgt := 173) (off := 172) dX6_count_1 (by decide) (by decide) rfl (by decide) ?_
    refine r_aload_n (d := mX6_count) (pc := 173) (i := 0) (v := 155) dX6_count_173 rfl rfl ?_
    refine r_getIs (d := mX6_count) (pc := 174) (a := 155) (kd := 6) (j := 7) (x := (I 155 7)) dX6_count_174 flRX6_135 ly155 (by decide) (by decide) rfl (rfl) ?_
    exact r_iret (d := mX6_count) (pc := 177) dX6_count_177 rfl (rtI (by unfold coV; repeat (first | rw [if_pos (by first | assumption | omega)] | rw [if_neg (by first | assumption | omega)])) (by rfl)) (by decide) (by decide)
  by_cases hs1_12 : w = 12
  · rw [hs1_12]
    refine r_tableIn (d := mX6_count) (pc := 1) (tgt := 191) (off := 190) dX6_count_1 (by decide) (by decide) rfl (by decide) ?_
    refine r_iconst (d := mX6_count) (pc := 191) (n := (-1)) dX6_count_191 ?_
    exact r_iret (d := mX6_count) (pc := 192) dX6_count_192 rfl (rtI (by unfold coV; repeat (first | rw [if_pos (by first | assumption | omega)] | rw [if_neg (by first | assumption | omega)])) (by rfl)) (by decide) (by decide)
  by_cases hs1_13 : w = 13
  · rw [hs1_13]
    refine r_tableIn (d := mX6_count) (pc := 1) (tgt := 191) (off := 190) dX6_count_1 (by decide) (by decide) rfl (by decide) ?_
    refine r_iconst (d := mX6_count) (pc := 191) (n := (-1)) dX6_count_191 ?_
    exact r_iret (d := mX6_count) (pc := 192) dX6_count_192 rfl (rtI (by unfold coV; repeat (first | rw [if_pos (by first | assumption | omega)] | rw [if_neg (by first | assumption | omega)])) (by rfl)) (by decide) (by decide)
  by_cases hs1_14 : w = 14
  · rw [hs1_14]
    refine r_tableIn (d := mX6_count) (pc := 1) (tgt := 191) (off := 190) dX6_count_1 (by decide) (by decide) rfl (by decide) ?_
    refine r_iconst (d := mX6_count) (pc := 191) (n := (-1)) dX6_count_191 ?_
    exact r_iret (d := mX6_count) (pc := 192) dX6_count_192 rfl (rtI (by unfold coV; repeat (first | rw [if_pos (by first | assumption | omega)] | rw [if_neg (by first | assumption | omega)])) (by rfl)) (by decide) (by decide)
  by_cases hs1_15 : w = 15
  · rw [hs1_15]
    refine r_tableIn (d := mX6_count) (pc := 1) (tgt := 191) (off := 190) dX6_count_1 (by decide) (by decide) rfl (by decide) ?_
    refine r_iconst (d := mX6_count) (pc := 191) (n := (-1)) dX6_count_191 ?_
    exact r_iret (d := mX6_count) (pc := 192) dX6_count_192 rfl (rtI (by unfold coV; repeat (first | rw [if_pos (by first | assumption | omega)] | rw [if_neg (by first | assumption | omega)])) (by rfl)) (by decide) (by decide)
  by_cases hs1_16 : w = 16
  · rw [hs1_16]
    refine r_tableIn (d := mX6_count) (pc := 1) (tgt := 191) (off := 190) dX6_count_1 (by decide) (by decide) rfl (by decide) ?_
    refine r_iconst (d := mX6_count) (pc := 191) (n := (-1)) dX6_count_191 ?_
    exact r_iret (d := mX6_count) (pc := 192) dX6_count_192 rfl (rtI (by unfold coV; repeat (first | rw [if_pos (by first | assumption | omega)] | rw [if_neg (by first | assumption | omega)])) (by rfl)) (by decide) (by decide)
  by_cases hs1_17 : w = 17
  · rw [hs1_17]
    refine r_tableIn (d := mX6_count) (pc := 1) (tgt := 191) (off := 190) dX6_count_1 (by decide) (by decide) rfl (by decide) ?_
    refine r_iconst (d := mX6_count) (pc := 191) (n := (-1)) dX6_count_191 ?_
    exact r_iret (d := mX6_count) (pc := 192) dX6_count_192 rfl (rtI (by unfold coV; repeat (first | rw [if_pos (by first | assumption | omega)] | rw [if_neg (by first | assumption | omega)])) (by rfl)) (by decide) (by decide)
  by_cases hs1_18 : w = 18
  · rw [hs1_18]
    refine r_tableIn (d := mX6_count) (pc := 1) (tgt := 191) (off := 190) dX6_count_1 (by decide) (by decide) rfl (by decide) ?_
    refine r_iconst (d := mX6_count) (pc := 191) (n := (-1)) dX6_count_191 ?_
    exact r_iret (d := mX6_count) (pc := 192) dX6_count_192 rfl (rtI (by unfold coV; repeat (first | rw [if_pos (by first | assumption | omega)] | rw [if_neg (by first | assumption | omega)])) (by rfl)) (by decide) (by decide)
  by_cases hs1_19 : w = 19
  · rw [hs1_19]
    refine r_tableIn (d := mX6_count) (pc := 1) (tgt := 191) (off := 190) dX6_count_1 (by decide) (by decide) rfl (by decide) ?_
    refine r_iconst (d := mX6_count) (pc := 191) (n := (-1)) dX6_count_191 ?_
    exact r_iret (d := mX6_count) (pc := 192) dX6_count_192 rfl (rtI (by unfold coV; repeat (first | rw [if_pos (by first | assumption | omega)] | rw [if_neg (by first | assumption | omega)])) (by rfl)) (by decide) (by decide)
  by_cases hs1_20 : w = 20
  · rw [hs1_20]
    refine r_tableIn (d := mX6_count) (pc := 1) (tgt := 178) (off := 177) dX6_count_1 (by decide) (by decide) rfl (by decide) ?_
    refine r_aload_n (d := mX6_count) (pc := 178) (i := 0) (v := 155) dX6_count_178 rfl rfl ?_
    refine r_getRs (d := mX6_count) (pc := 179) (a := 155) (kd := 6) (j := 0) (x := 156) dX6_count_179 flRX6_7 ly155 (by decide) (by decide) rfl hM.1 ?_
    refine r_bipush (d := mX6_count) (pc := 182) (n := 8) dX6_count_182 ?_
    refine r_iload_n (d := mX6_count) (pc := 184) (i := 1) (v := 20) dX6_count_184 rfl rfl ?_
    refine r_iadd (d := mX6_count) (pc := 185) dX6_count_185 ?_
    refine r_bipush (d := mX6_count) (pc := 186) (n := 20) dX6_count_186 ?_
    refine r_isub (d := mX6_count) (pc := 188) dX6_count_188 ?_
    refine r_ialds (d := mX6_count) (pc := 189) (a := 156) (x := (I 156 ((8 + 20) - 20))) dX6_count_189 ly156 (by omega) (by omega) (rfl) ?_
    exact r_iret (d := mX6_count) (pc := 190) dX6_count_190 rfl (rtI (by unfold coV; repeat (first | rw [if_pos (by first | assumption | omega)] | rw [if_neg (by first | assumption | omega)])) (by rfl)) (by decide) (by decide)
  by_cases hs1_21 : w = 21
  · rw [hs1_21]
    refine r_tableIn (d := mX6_count) (pc := 1) (tgt := 178) (off := 177) dX6_count_1 (by decide) (by decide) rfl (by decide) ?_
    refine r_aload_n (d := mX6_count) (pc := 178) (i := 0) (v := 155) dX6_count_178 rfl rfl ?_
    refine r_getRs (d := mX6_count) (pc := 179) (a := 155) (kd := 6) (j := 0) (x := 156) dX6_count_179 flRX6_7 ly155 (by decide) (by decide) rfl hM.1 ?_
    refine r_bipush (d := mX6_count) (pc := 182) (n := 8) dX6_count_182 ?_
    refine r_iload_n (d := mX6_count) (pc := 184) (i := 1) (v := 21) dX6_count_184 rfl rfl ?_
    refine r_iadd (d := mX6_count) (pc := 185) dX6_count_185 ?_
    refine r_bipush (d := mX6_count) (pc := 186) (n := 20) dX6_count_186 ?_
    refine r_isub (d := mX6_count) (pc := 188) dX6_count_188 ?_
    refine r_ialds (d := mX6_count) (pc := 189) (a := 156) (x := (I 156 ((8 + 21) - 20))) dX6_count_189 ly156 (by omega) (by omega) (rfl) ?_
    exact r_iret (d := mX6_count) (pc := 190) dX6_count_190 rfl (rtI (by unfold coV; repeat (first | rw [if_pos (by first | assumption | omega)] | rw [if_neg (by first | assumption | omega)])) (by rfl)) (by decide) (by decide)
  by_cases hs1_22 : w = 22
  · rw [hs1_22]
    refine r_tableIn (d := mX6_count) (pc := 1) (tgt := 178) (off := 177) dX6_count_1 (by decide) (by decide) rfl (by decide) ?_
    refine r_aload_n (d := mX6_count) (pc := 178) (i := 0) (v := 155) dX6_count_178 rfl rfl ?_
    refine r_getRs (d := mX6_count) (pc := 179) (a := 155) (kd := 6) (j := 0) (x := 156) dX6_count_179 flRX6_7 ly155 (by decide) (by decide) rfl hM.1 ?_
    refine r_bipush (d := mX6_count) (pc := 182) (n := 8) dX6_count_182 ?_
    refine r_iload_n (d := mX6_count) (pc := 184) (i := 1) (v := 22) dX6_count_184 rfl rfl ?_
    refine r_iadd (d := mX6_count) (pc := 185) dX6_count_185 ?_
    refine r_bipush (d := mX6_count) (pc := 186) (n := 20) dX6_count_186 ?_
    refine r_isub (d := mX6_count) (pc := 188) dX6_count_188 ?_
    refine r_ialds (d := mX6_count) (pc := 189) (a := 156) (x := (I 156 ((8 + 22) - 20))) dX6_count_189 ly156 (by omega) (by omega) (rfl) ?_
    exact r_iret (d := mX6_count) (pc := 190) dX6_count_190 rfl (rtI (by unfold coV; repeat (first | rw [if_pos (by first | assumption | omega)] | rw [if_neg (by first | assumption | omega)])) (by rfl)) (by decide) (by decide)
  by_cases hs1_23 : w = 23
  · rw [hs1_23]
    refine r_tableIn (d := mX6_count) (pc := 1) (tgt := 178) (off := 177) dX6_count_1 (by decide) (by decide) rfl (by decide) ?_
    refine r_aload_n (d := mX6_count) (pc := 178) (i := 0) (v := 155) dX6_count_178 rfl rfl ?_
    refine r_getRs (d := mX6_count) (pc := 179) (a := 155) (kd := 6) (j := 0) (x := 156) dX6_count_179 flRX6_7 ly155 (by decide) (by decide) rfl hM.1 ?_
    refine r_bipush (d := mX6_count) (pc := 182) (n := 8) dX6_count_182 ?_
    refine r_iload_n (d := mX6_count) (pc := 184) (i := 1) (v := 23) dX6_count_184 rfl rfl ?_
    refine r_iadd (d := mX6_count) (pc := 185) dX6_count_185 ?_
    refine r_bipush (d := mX6_count) (pc := 186) (n := 20) dX6_count_186 ?_
    refine r_isub (d := mX6_count) (pc := 188) dX6_count_188 ?_
    refine r_ialds (d := mX6_count) (pc := 189) (a := 156) (x := (I 156 ((8 + 23) - 20))) dX6_count_189 ly156 (by omega) (by omega) (rfl) ?_
    exact r_iret (d := mX6_count) (pc := 190) dX6_count_190 rfl (rtI (by unfold coV; repeat (first | rw [if_pos (by first | assumption | omega)] | rw [if_neg (by first | assumption | omega)])) (by rfl)) (by decide) (by decide)
  refine r_tableOut (d := mX6_count) (pc := 1) (tgt := 191) dX6_count_1 (by omega) (by decide) ?_
  refine r_iconst (d := mX6_count) (pc := 191) (n := (-1)) dX6_count_191 ?_
  exact r_iret (d := mX6_count) (pc := 192) dX6_count_192 rfl (rtI (by unfold coV; repeat (first | rw [if_pos (by first | assumption | omega)] | rw [if_neg (by first | assumption | omega)])) (by rfl)) (by decide) (by decide)
set_option maxRecDepth 20000 in
set_option maxHeartbeats 4000000 in
theorem Fn_X6_sends (k : Nat) (I : mIt) (P : mPt) (hM : isMd P) (n : Nat) (hn : I 156 3 = n) (hn6 : n ≤ 6) (m : Nat) (hm : I 156 2 = m) (hm3 : m ≤ 3) (nc : Nat) (hc : I 156 0 = nc) (hc7 : nc ≤ 7) (hq : 0 ≤ I 155 4 ∧ I 155 4 ≤ 4) (hs5 : 0 ≤ I 156 5 ∧ I 156 5 ≤ 2000000000) (hs6 : 0 ≤ I 156 6 ∧ I 156 6 ≤ 2000000000) (hs1 : 0 ≤ I 156 1 ∧ I 156 1 ≤ 60000) (hs10 : 0 ≤ I 156 10 ∧ I 156 10 ≤ 9) (hs7 : 0 ≤ I 156 7 ∧ I 156 7 ≤ 2000000000) (hs5b : I 156 5 ≤ 1999999990) (hs6b : I 156 6 ≤ 1999999990) (hseat : ∀ i : Int, 12 ≤ i → i < 20 → I 156 i < 7) (name one other : Int) (hfgR : (0 ≤ name ∧ name ≤ 7) ∧ (0 ≤ one ∧ one ≤ 7) ∧ (0 ≤ other ∧ other ≤ 7) → gv1 (I 156) n m nc name one other = true → gv2 (I 156) n m nc name one other = true → (0 ≤ gvF (I 156) n m nc name one other ∧ gvF (I 156) n m nc name one other < 7) ∧ (0 ≤ gvG (I 156) n m nc name one other ∧ gvG (I 156) n m nc name one other < 7)) : WP (k + 7) mX6_sends none (0, 0) (Rt (some (.inl (seV (I 156) n m nc name one other))) (lay0, seI I n m nc name one other, P)) 0 [(0, .inr (some 155)), (1, .inl name), (2, .inl one), (3, .inl other)] [] (lay0, I, P) := by
  refine r_iload_n (d := mX6_sends) (pc := 0) (i := 1) (v := name) dX6_sends_0 rfl rfl ?_
  refine r_cS1 (d := mX6_sends) (pc := 1) (dj := mX6_isName) dX6_sends_1 mlRX6_85 staX6_isName okX6_isName (by decide) rfl (Nat.le_of_ble_eq_true rfl) (by decide) (by decide) (Fn_X6_isName (k + 5) I P   name) ?_
  refine r_ifb_eq (d := mX6_sends) (pc := 4) (tgt := 21) dX6_sends_4 (by decide) (fun h4 => ?_) (fun h4 => ?_)
  · refine r_iconst (d := mX6_sends) (pc := 21) (n := (-1)) dX6_sends_21 ?_
    exact r_iret (d := mX6_sends) (pc := 22) dX6_sends_22 rfl (rtI (by unfold seV; repeat (first | rw [if_pos (by first | assumption | omega)] | rw [if_neg (by first | assumption | omega)])) (by refine memE ?_; rw [seI, if_pos (by omega)])) (by decide) (by decide)
  · refine r_iload_n (d := mX6_sends) (pc := 7) (i := 2) (v := one) dX6_sends_7 rfl rfl ?_
    refine r_cS1 (d := mX6_sends) (pc := 8) (dj := mX6_isName) dX6_sends_8 mlRX6_85 staX6_isName okX6_isName (by decide) rfl (Nat.le_of_ble_eq_true rfl) (by decide) (by decide) (Fn_X6_isName (k + 5) I P   one) ?_
    refine r_ifb_eq (d := mX6_sends) (pc := 11) (tgt := 21) dX6_sends_11 (by decide) (fun h11 => ?_) (fun h11 => ?_)
    · refine r_iconst (d := mX6_sends) (pc := 21) (n := (-1)) dX6_sends_21 ?_
      exact r_iret (d := mX6_sends) (pc := 22) dX6_sends_22 rfl (rtI (by unfold seV; repeat (first | rw [if_pos (by first | assumption | omega)] | rw [if_neg (by first | assumption | omega)])) (by refine memE ?_; rw [seI, if_pos (by omega)])) (by decide) (by decide)
    · refine r_iload_n (d := mX6_sends) (pc := 14) (i := 3) (v := other) dX6_sends_14 rfl rfl ?_
      refine r_cS1 (d := mX6_sends) (pc := 15) (dj := mX6_isName) dX6_sends_15 mlRX6_85 staX6_isName okX6_isName (by decide) rfl (Nat.le_of_ble_eq_true rfl) (by decide) (by decide) (Fn_X6_isName (k + 5) I P   other) ?_
      refine r_ifb_ne (d := mX6_sends) (pc := 18) (tgt := 23) dX6_sends_18 (by decide) (fun h18 => ?_) (fun h18 => ?_)
      · have hfg := hfgR ⟨by omega, by omega, by omega⟩
        refine r_aload_n (d := mX6_sends) (pc := 23) (i := 0) (v := 155) dX6_sends_23 rfl rfl ?_
        refine r_getRs (d := mX6_sends) (pc := 24) (a := 155) (kd := 6) (j := 0) (x := 156) dX6_sends_24 flRX6_7 ly155 (by decide) (by decide) rfl hM.1 ?_
        refine r_aload_n (d := mX6_sends) (pc := 27) (i := 0) (v := 155) dX6_sends_27 rfl rfl ?_
        refine r_getRs (d := mX6_sends) (pc := 28) (a := 155) (kd := 6) (j := 3) (x := 159) dX6_sends_28 flRX6_19 ly155 (by decide) (by decide) rfl hM.2.2.2.1 ?_
        refine r_cS2 (d := mX6_sends) (pc := 31) (dj := mX6_copies) dX6_sends_31 mlRX6_88 staX6_copies okX6_copies (by decide) rfl (Nat.le_of_ble_eq_true rfl) (by decide) (by decide) (Fn_X6_copies (k + 6) I P 156 159 ly156 ly159 (by decide)) ?_
        refine wpE (lv' := [(0, .inr (some 155)), (1, .inl name), (2, .inl one), (3, .inl other)]) (st' := []) (M' := (lay0, arS (mdB I (I 157) (I 155 4) (cpF (I 159) (I 156)) (I 158)) 156 (I 156), P)) rfl rfl (by refine memE ?_; exact cp159_0 I) ?_
        refine r_aload_n (d := mX6_sends) (pc := 34) (i := 0) (v := 155) dX6_sends_34 rfl rfl ?_
        refine r_iload_n (d := mX6_sends) (pc := 35) (i := 1) (v := name) dX6_sends_35 rfl rfl ?_
        refine r_iload_n (d := mX6_sends) (pc := 36) (i := 2) (v := one) dX6_sends_36 rfl rfl ?_
        refine r_iload_n (d := mX6_sends) (pc := 37) (i := 3) (v := other) dX6_sends_37 rfl rfl ?_
        refine r_cV3 (d := mX6_sends) (pc := 38) (dj := mX6_gives) (a := 155) (kd := 6) dX6_sends_38 mlRX6_102 inX6_gives selX6_gives rfl ly155 (by decide) okX6_gives (by decide) rfl (Nat.le_of_ble_eq_true rfl) (by decide) (by decide) (Fn_X6_gives k (arS (mdB I (I 157) (I 155 4) (cpF (I 159) (I 156)) (I 158)) 156 (I 156)) P hM n (hn) hn6 m (hm) hm3 nc (hc) hc7 hq hs5 hs6 hs1 hs10 hs7 hs5b hs6b hseat name one other (by omega) (by omega) (by omega) (by omega) (by omega) (by omega) hfg) ?_
        refine wpE (lv' := [(0, .inr (some 155)), (1, .inl name), (2, .inl one), (3, .inl other)]) (st' := [.inl (gvV (I 156) n m nc name one other)]) (M' := (lay0, arS (mdB I (I 157) (I 155 4) (cpF (I 159) (I 156)) (I 158)) 156 (gvS (I 156) n m nc name one other), P)) rfl rfl (memE (arS_arS _ _ _ _)) ?_
        refine r_istore (d := mX6_sends) (pc := 41) (i := 4) (lv' := [(0, .inr (some 155)), (1, .inl name), (2, .inl one), (3, .inl other), (4, .inl (gvV (I 156) n m nc name one other))]) dX6_sends_41 (by decide) rfl rfl ?_
        refine r_aload_n (d := mX6_sends) (pc := 43) (i := 0) (v := 155) dX6_sends_43 rfl rfl ?_
        refine r_getRs (d := mX6_sends) (pc := 44) (a := 155) (kd := 6) (j := 0) (x := 156) dX6_sends_44 flRX6_7 ly155 (by decide) (by decide) rfl hM.1 ?_
        refine r_iconst (d := mX6_sends) (pc := 47) (n := 5) dX6_sends_47 ?_
        refine r_ialds (d := mX6_sends) (pc := 48) (a := 156) (x := ((gvS (I 156) n m nc name one other) 5)) dX6_sends_48 ly156 (by decide) (by decide) (rfl) ?_
        refine r_aload_n (d := mX6_sends) (pc := 49) (i := 0) (v := 155) dX6_sends_49 rfl rfl ?_
        refine r_getRs (d := mX6_sends) (pc := 50) (a := 155) (kd := 6) (j := 3) (x := 159) dX6_sends_50 flRX6_19 ly155 (by decide) (by decide) rfl hM.2.2.2.1 ?_
        refine r_iconst (d := mX6_sends) (pc := 53) (n := 5) dX6_sends_53 ?_
        refine r_ialds (d := mX6_sends) (pc := 54) (a := 159) (x := (I 156 5)) dX6_sends_54 ly159 (by decide) (by decide) (by show cpF (I 159) (I 156) 5 = _; exact cpF_in _ _ (by decide) (by decide)) ?_
        have h5q := gvS_5 (I 156) n m nc name one other (by omega) (by omega) (by omega) (fun g1 g2 => ⟨(hfg g1 g2).1.1, (hfg g1 g2).2.1⟩)
        refine r_isub (d := mX6_sends) (pc := 55) dX6_sends_55 ?_
        refine r_istore (d := mX6_sends) (pc := 56) (i := 5) (lv' := [(0, .inr (some 155)), (1, .inl name), (2, .inl one), (3, .inl other), (4, .inl (gvV (I 156) n m nc name one other)), (5, .inl (((gvS (I 156) n m nc name one other) 5) - (I 156 5)))]) dX6_sends_56 (by decide) rfl rfl ?_
        refine r_aload_n (d := mX6_sends) (pc := 58) (i := 0) (v := 155) dX6_sends_58 rfl rfl ?_
        refine r_getRs (d := mX6_sends) (pc := 59) (a := 155) (kd := 6) (j := 3) (x := 159) dX6_sends_59 flRX6_19 ly155 (by decide) (by decide) rfl hM.2.2.2.1 ?_
        refine r_aload_n (d := mX6_sends) (pc := 62) (i := 0) (v := 155) dX6_sends_62 rfl rfl ?_
        refine r_getRs (d := mX6_sends) (pc := 63) (a := 155) (kd := 6) (j := 0) (x := 156) dX6_sends_63 flRX6_7 ly155 (by decide) (by decide) rfl hM.1 ?_
        refine r_cS2 (d := mX6_sends) (pc := 66) (dj := mX6_copies) dX6_sends_66 mlRX6_88 staX6_copies okX6_copies (by decide) rfl (Nat.le_of_ble_eq_true rfl) (by decide) (by decide) (Fn_X6_copies (k + 6) (arS (mdB I (I 157) (I 155 4) (cpF (I 159) (I 156)) (I 158)) 156 (gvS (I 156) n m nc name one other)) P 159 156 ly159 ly156 (by decide)) ?_
        refine wpE (lv' := [(0, .inr (some 155)), (1, .inl name), (2, .inl one), (3, .inl other), (4, .inl (gvV (I 156) n m nc name one other)), (5, .inl (((gvS (I 156) n m nc name one other) 5) - (I 156 5)))]) (st' := []) (M' := (lay0, arS (mdB I (I 157) (I 155 4) (cpF (I 159) (I 156)) (I 158)) 156 (cpF (gvS (I 156) n m nc name one other) (cpF (I 159) (I 156))), P)) rfl rfl (by refine memE ?_; exact mdB_cp156 _ _ _ _ _ _ _) ?_
        refine r_iload (d := mX6_sends) (pc := 69) (i := 4) (v := gvV (I 156) n m nc name one other) dX6_sends_69 rfl ?_
        refine r_if_ge (d := mX6_sends) (pc := 71) (tgt := 79) dX6_sends_71 (by decide) (fun h71 => ?_) (fun h71 => ?_)
        · refine r_iload (d := mX6_sends) (pc := 79) (i := 5) (v := (((gvS (I 156) n m nc name one other) 5) - (I 156 5))) dX6_sends_79 rfl ?_
          exact r_iret (d := mX6_sends) (pc := 81) dX6_sends_81 rfl (rtI (by unfold seV; repeat (first | rw [if_pos (by first | assumption | omega)] | rw [if_neg (by first | assumption | omega)])) (by refine memE ?_; rw [seI, if_neg (by omega)]; rfl)) (by decide) (by decide)
        · refine r_bipush (d := mX6_sends) (pc := 74) (n := (-2)) dX6_sends_74 ?_
          refine r_goto (d := mX6_sends) (pc := 76) (tgt := 81) dX6_sends_76 (by decide) ?_
          exact r_iret (d := mX6_sends) (pc := 81) dX6_sends_81 rfl (rtI (by unfold seV; repeat (first | rw [if_pos (by first | assumption | omega)] | rw [if_neg (by first | assumption | omega)])) (by refine memE ?_; rw [seI, if_neg (by omega)]; rfl)) (by decide) (by decide)
      · refine r_iconst (d := mX6_sends) (pc := 21) (n := (-1)) dX6_sends_21 ?_
        exact r_iret (d := mX6_sends) (pc := 22) dX6_sends_22 rfl (rtI (by unfold seV; repeat (first | rw [if_pos (by first | assumption | omega)] | rw [if_neg (by first | assumption | omega)])) (by refine memE ?_; rw [seI, if_pos (by omega)])) (by decide) (by decide)
set_option maxRecDepth 20000 in
set_option maxHeartbeats 4000000 in
theorem Fn_X6_idleIn (k : Nat) (I : mIt) (P : mPt) (hM : isMd P) (n : Nat) (hn : I 156 3 = n) (hn6 : n ≤ 6) (m : Nat) (hm : I 156 2 = m) (hm3 : m ≤ 3) (nc : Nat) (hc : I 156 0 = nc) (hc7 : nc ≤ 7) (hO : oOK (I 156) n) (hV : vOK (I 156)) (hs4 : 0 ≤ I 156 4 ∧ I 156 4 ≤ 1999999990) (hs1 : 0 ≤ I 156 1 ∧ I 156 1 ≤ 50000) (hs8 : 0 ≤ I 156 8 ∧ I 156 8 ≤ 99) (hs9 : 0 ≤ I 156 9 ∧ I 156 9 ≤ 99) (J : Nat) (hJ : J ≤ 1000) (hJ0 : (tkM (I 156) n m nc J).2 = 0) (hJm : ∀ j : Nat, j < J → 0 < (tkM (I 156) n m nc j).2) : WP (k + 5) mX6_idleIn none (0, 0) (Rt (some (.inl (J : Int))) (lay0, idI I n m nc J, P)) 0 [(0, .inr (some 155))] [] (lay0, I, P) := by
  refine r_aload_n (d := mX6_idleIn) (pc := 0) (i := 0) (v := 155) dX6_idleIn_0 rfl rfl ?_
  refine r_getRs (d := mX6_idleIn) (pc := 1) (a := 155) (kd := 6) (j := 0) (x := 156) dX6_idleIn_1 flRX6_7 ly155 (by decide) (by decide) rfl hM.1 ?_
  refine r_aload_n (d := mX6_idleIn) (pc := 4) (i := 0) (v := 155) dX6_idleIn_4 rfl rfl ?_
  refine r_getRs (d := mX6_idleIn) (pc := 5) (a := 155) (kd := 6) (j := 3) (x := 159) dX6_idleIn_5 flRX6_19 ly155 (by decide) (by decide) rfl hM.2.2.2.1 ?_
  refine r_cS2 (d := mX6_idleIn) (pc := 8) (dj := mX6_copies) dX6_idleIn_8 mlRX6_88 staX6_copies okX6_copies (by decide) rfl (Nat.le_of_ble_eq_true rfl) (by decide) (by decide) (Fn_X6_copies (k + 4) I P 156 159 ly156 ly159 (by decide)) ?_
  refine wpE (lv' := [(0, .inr (some 155))]) (st' := []) (M' := (lay0, arS (mdB I (I 157) (I 155 4) (cpF (I 159) (I 156)) (I 158)) 156 (I 156), P)) rfl rfl (by refine memE ?_; exact cp159_0 I) ?_
  refine r_iconst (d := mX6_idleIn) (pc := 11) (n := 0) dX6_idleIn_11 ?_
  refine r_istore_n (d := mX6_idleIn) (pc := 12) (i := 1) (lv' := [(0, .inr (some 155)), (1, .inl 0)]) dX6_idleIn_12 rfl (by decide) rfl rfl ?_
  have L13 : ∀ j : Nat, j ≤ J → WP (k + 5) mX6_idleIn none (0, 0) (Rt (some (.inl (J : Int))) (lay0, idI I n m nc J, P)) 13 [(0, .inr (some 155)), (1, .inl (j : Int))] [] (lay0, arS (mdB I (I 157) (I 155 4) (cpF (I 159) (I 156)) (I 158)) 156 ((tkM (I 156) n m nc j).1), P) := by
    refine loopN (J) _ (fun j ih13 hj13 => ?_)
    refine r_aload_n (d := mX6_idleIn) (pc := 13) (i := 0) (v := 155) dX6_idleIn_13 rfl rfl ?_
    refine r_getRs (d := mX6_idleIn) (pc := 14) (a := 155) (kd := 6) (j := 0) (x := 156) dX6_idleIn_14 flRX6_7 ly155 (by decide) (by decide) rfl hM.1 ?_
    refine r_iconst (d := mX6_idleIn) (pc := 17) (n := 3) dX6_idleIn_17 ?_
    refine r_ialds (d := mX6_idleIn) (pc := 18) (a := 156) (x := (((tkM (I 156) n m nc j).2 : Nat) : Int)) dX6_idleIn_18 ly156 (by decide) (by decide) (by show ((tkM (I 156) n m nc j).1) 3 = _; rw [(tkM_inv (m := m) hO hV hn hc7 j).2.2.2.2.1]) ?_
    refine r_if_le (d := mX6_idleIn) (pc := 19) (tgt := 32) dX6_idleIn_19 (by decide) (fun h19 => ?_) (fun h19 => ?_)
    · have hjJ : j = J := by
        rcases Nat.lt_or_ge j J with q | q
        · exfalso; have := hJm j q; omega
        · omega
      refine r_aload_n (d := mX6_idleIn) (pc := 32) (i := 0) (v := 155) dX6_idleIn_32 rfl rfl ?_
      refine r_getRs (d := mX6_idleIn) (pc := 33) (a := 155) (kd := 6) (j := 3) (x := 159) dX6_idleIn_33 flRX6_19 ly155 (by decide) (by decide) rfl hM.2.2.2.1 ?_
      refine r_aload_n (d := mX6_idleIn) (pc := 36) (i := 0) (v := 155) dX6_idleIn_36 rfl rfl ?_
      refine r_getRs (d := mX6_idleIn) (pc := 37) (a := 155) (kd := 6) (j := 0) (x := 156) dX6_idleIn_37 flRX6_7 ly155 (by decide) (by decide) rfl hM.1 ?_
      refine r_cS2 (d := mX6_idleIn) (pc := 40) (dj := mX6_copies) dX6_idleIn_40 mlRX6_88 staX6_copies okX6_copies (by decide) rfl (Nat.le_of_ble_eq_true rfl) (by decide) (by decide) (Fn_X6_copies (k + 4) (arS (mdB I (I 157) (I 155 4) (cpF (I 159) (I 156)) (I 158)) 156 ((tkM (I 156) n m nc j).1)) P 159 156 ly159 ly156 (by decide)) ?_
      refine wpE (lv' := [(0, .inr (some 155)), (1, .inl (j : Int))]) (st' := []) (M' := (lay0, arS (mdB I (I 157) (I 155 4) (cpF (I 159) (I 156)) (I 158)) 156 (cpF ((tkM (I 156) n m nc j).1) (cpF (I 159) (I 156))), P)) rfl rfl (by refine memE ?_; exact mdB_cp156 _ _ _ _ _ _ _) ?_
      refine r_iload_n (d := mX6_idleIn) (pc := 43) (i := 1) (v := (j : Int)) dX6_idleIn_43 rfl rfl ?_
      exact r_iret (d := mX6_idleIn) (pc := 44) dX6_idleIn_44 rfl (rtI (by rw [hjJ]) (by refine memE ?_; rw [hjJ]; rfl)) (by decide) (by decide)
    · have hi9 := tkM_inv (m := m) hO hV hn hc7 j
      have hjJ : j < J := by
        rcases Nat.lt_or_ge j J with q | q
        · exact q
        · exfalso; rw [show j = J by omega, hJ0] at h19; omega
      refine r_aload_n (d := mX6_idleIn) (pc := 22) (i := 0) (v := 155) dX6_idleIn_22 rfl rfl ?_
      refine r_cV0 (d := mX6_idleIn) (pc := 23) (dj := mX6_ticks) (a := 155) (kd := 6) dX6_idleIn_23 mlRX6_117 inX6_ticks selX6_ticks rfl ly155 (by decide) okX6_ticks (by decide) rfl (Nat.le_of_ble_eq_true rfl) (by decide) (by decide) (Fn_X6_ticks k (arS (mdB I (I 157) (I 155 4) (cpF (I 159) (I 156)) (I 158)) 156 ((tkM (I 156) n m nc j).1)) P hM (tkM (I 156) n m nc j).2 hi9.2.2.2.2.1 (by have := hi9.2.2.2.2.2.1; omega) m ((hi9.1 2 (by decide) (by decide) (by decide) (by decide)).trans hm) hm3 nc ((hi9.1 0 (by decide) (by decide) (by decide) (by decide)).trans hc) hc7 hi9.2.2.1 hi9.2.2.2.1 (by have e9 : ((tkM (I 156) n m nc j).1) 4 = _ := hi9.2.2.2.2.2.2.1; have e8 := hi9.2.2.2.2.2.1; show 0 ≤ ((tkM (I 156) n m nc j).1) 4 ∧ ((tkM (I 156) n m nc j).1) 4 ≤ _; omega) (by have e9 : ((tkM (I 156) n m nc j).1) 1 = I 156 1 + (j : Int) := hi9.2.2.2.2.2.2.2; show 0 ≤ ((tkM (I 156) n m nc j).1) 1 ∧ ((tkM (I 156) n m nc j).1) 1 ≤ _; omega) (by have e9 : ((tkM (I 156) n m nc j).1) 8 = I 156 8 := hi9.1 8 (by decide) (by decide) (by decide) (by decide); show 0 ≤ ((tkM (I 156) n m nc j).1) 8 ∧ ((tkM (I 156) n m nc j).1) 8 ≤ _; omega) (by have e9 : ((tkM (I 156) n m nc j).1) 9 = I 156 9 := hi9.1 9 (by decide) (by decide) (by decide) (by decide); show 0 ≤ ((tkM (I 156) n m nc j).1) 9 ∧ ((tkM (I 156) n m nc j).1) 9 ≤ _; omega)) ?_
      refine wpE (lv' := [(0, .inr (some 155)), (1, .inl (j : Int))]) (st' := []) (M' := (lay0, arS (mdB I (I 157) (I 155 4) (cpF (I 159) (I 156)) (I 158)) 156 ((tkM (I 156) n m nc (j + 1)).1), P)) rfl rfl (memE (arS_arS _ _ _ _)) ?_
      refine r_iinc (d := mX6_idleIn) (pc := 26) (i := 1) (v := (j : Int)) (y := ((j + 1 : Nat) : Int)) (lv' := [(0, .inr (some 155)), (1, .inl ((j + 1 : Nat) : Int))]) dX6_idleIn_26 rfl (by decide) rfl (by omega) rfl ?_
      refine r_goto (d := mX6_idleIn) (pc := 29) (tgt := 13) dX6_idleIn_29 (by decide) ?_
      exact wpE (by simp) rfl (by rfl) (ih13 (by omega) (by omega))
  exact wpE (by simp) rfl (by rfl) (L13 0 (by omega))
set_option maxRecDepth 20000 in
set_option maxHeartbeats 4000000 in
theorem Fn_X6_knownIn (k : Nat) (I : mIt) (P : mPt) (hM : isMd P) (n : Nat) (hn : I 156 3 = n) (hn6 : n ≤ 6) (m : Nat) (hm : I 156 2 = m) (hm3 : m ≤ 3) (nc : Nat) (hc : I 156 0 = nc) (hc7 : nc ≤ 7) (hO : oOK (I 156) n) (hV : vOK (I 156)) (hs4 : 0 ≤ I 156 4 ∧ I 156 4 ≤ 1999999990) (hs1 : 0 ≤ I 156 1 ∧ I 156 1 ≤ 50000) (hs8 : 0 ≤ I 156 8 ∧ I 156 8 ≤ 99) (hs9 : 0 ≤ I 156 9 ∧ I 156 9 ≤ 99) (hseat : ∀ i : Int, 12 ≤ i → i < 20 → I 156 i < 7) (nm : Int) (J : Nat) (hJ : J ≤ 1000) (hJ0 : 0 ≤ nm ∧ nm ≤ 7 → I 156 (12 + nm) < 0 ∨ (tkM (I 156) n m nc J).1 (28 + 5 * I 156 (12 + nm) + 2) ≠ 0) (hJm : 0 ≤ nm ∧ nm ≤ 7 → ∀ j : Nat, j < J → 0 ≤ I 156 (12 + nm) ∧ (tkM (I 156) n m nc j).1 (28 + 5 * I 156 (12 + nm) + 2) = 0) : WP (k + 5) mX6_knownIn none (0, 0) (Rt (some (.inl (kiV nm J))) (lay0, kiI I n m nc nm J, P)) 0 [(0, .inr (some 155)), (1, .inl nm)] [] (lay0, I, P) := by
  refine r_iload_n (d := mX6_knownIn) (pc := 0) (i := 1) (v := nm) dX6_knownIn_0 rfl rfl ?_
  refine r_cS1 (d := mX6_knownIn) (pc := 1) (dj := mX6_isName) dX6_knownIn_1 mlRX6_85 staX6_isName okX6_isName (by decide) rfl (Nat.le_of_ble_eq_true rfl) (by decide) (by decide) (Fn_X6_isName (k + 3) I P   nm) ?_
  refine r_ifb_ne (d := mX6_knownIn) (pc := 4) (tgt := 9) dX6_knownIn_4 (by decide) (fun h4 => ?_) (fun h4 => ?_)
  · refine r_aload_n (d := mX6_knownIn) (pc := 9) (i := 0) (v := 155) dX6_knownIn_9 rfl rfl ?_
    refine r_getRs (d := mX6_knownIn) (pc := 10) (a := 155) (kd := 6) (j := 0) (x := 156) dX6_knownIn_10 flRX6_7 ly155 (by decide) (by decide) rfl hM.1 ?_
    refine r_aload_n (d := mX6_knownIn) (pc := 13) (i := 0) (v := 155) dX6_knownIn_13 rfl rfl ?_
    refine r_getRs (d := mX6_knownIn) (pc := 14) (a := 155) (kd := 6) (j := 3) (x := 159) dX6_knownIn_14 flRX6_19 ly155 (by decide) (by decide) rfl hM.2.2.2.1 ?_
    refine r_cS2 (d := mX6_knownIn) (pc := 17) (dj := mX6_copies) dX6_knownIn_17 mlRX6_88 staX6_copies okX6_copies (by decide) rfl (Nat.le_of_ble_eq_true rfl) (by decide) (by decide) (Fn_X6_copies (k + 4) I P 156 159 ly156 ly159 (by decide)) ?_
    refine wpE (lv' := [(0, .inr (some 155)), (1, .inl nm)]) (st' := []) (M' := (lay0, arS (mdB I (I 157) (I 155 4) (cpF (I 159) (I 156)) (I 158)) 156 (I 156), P)) rfl rfl (by refine memE ?_; exact cp159_0 I) ?_
    refine r_aload_n (d := mX6_knownIn) (pc := 20) (i := 0) (v := 155) dX6_knownIn_20 rfl rfl ?_
    refine r_getRs (d := mX6_knownIn) (pc := 21) (a := 155) (kd := 6) (j := 0) (x := 156) dX6_knownIn_21 flRX6_7 ly155 (by decide) (by decide) rfl hM.1 ?_
    refine r_bipush (d := mX6_knownIn) (pc := 24) (n := 12) dX6_knownIn_24 ?_
    refine r_iload_n (d := mX6_knownIn) (pc := 26) (i := 1) (v := nm) dX6_knownIn_26 rfl rfl ?_
    refine r_iadd (d := mX6_knownIn) (pc := 27) dX6_knownIn_27 ?_
    refine r_ialds (d := mX6_knownIn) (pc := 28) (a := 156) (x := ((I 156) (12 + nm))) dX6_knownIn_28 ly156 (by omega) (by omega) (rfl) ?_
    refine r_istore_n (d := mX6_knownIn) (pc := 29) (i := 2) (lv' := [(0, .inr (some 155)), (1, .inl nm), (2, .inl ((I 156) (12 + nm)))]) dX6_knownIn_29 rfl (by decide) rfl rfl ?_
    refine r_iconst (d := mX6_knownIn) (pc := 30) (n := 0) dX6_knownIn_30 ?_
    refine r_istore_n (d := mX6_knownIn) (pc := 31) (i := 3) (lv' := [(0, .inr (some 155)), (1, .inl nm), (2, .inl ((I 156) (12 + nm))), (3, .inl 0)]) dX6_knownIn_31 rfl (by decide) rfl rfl ?_
    have L32 : ∀ j : Nat, j ≤ J → WP (k + 5) mX6_knownIn none (0, 0) (Rt (some (.inl (kiV nm J))) (lay0, kiI I n m nc nm J, P)) 32 [(0, .inr (some 155)), (1, .inl nm), (2, .inl (I 156 (12 + nm))), (3, .inl (j : Int))] [] (lay0, arS (mdB I (I 157) (I 155 4) (cpF (I 159) (I 156)) (I 158)) 156 ((tkM (I 156) n m nc j).1), P) := by
      refine loopN (J) _ (fun j ih32 hj32 => ?_)
      have hst := hseat (12 + nm) (by omega) (by omega)
      refine r_iload_n (d := mX6_knownIn) (pc := 32) (i := 2) (v := (I 156 (12 + nm))) dX6_knownIn_32 rfl rfl ?_
      refine r_if_lt (d := mX6_knownIn) (pc := 33) (tgt := 59) dX6_knownIn_33 (by decide) (fun h33 => ?_) (fun h33 => ?_)
      · have hjJ : j = J := by
          rcases Nat.lt_or_ge j J with q | q
          · exfalso; have := hJm (by omega) j q; omega
          · omega
        refine r_aload_n (d := mX6_knownIn) (pc := 59) (i := 0) (v := 155) dX6_knownIn_59 rfl rfl ?_
        refine r_getRs (d := mX6_knownIn) (pc := 60) (a := 155) (kd := 6) (j := 3) (x := 159) dX6_knownIn_60 flRX6_19 ly155 (by decide) (by decide) rfl hM.2.2.2.1 ?_
        refine r_aload_n (d := mX6_knownIn) (pc := 63) (i := 0) (v := 155) dX6_knownIn_63 rfl rfl ?_
        refine r_getRs (d := mX6_knownIn) (pc := 64) (a := 155) (kd := 6) (j := 0) (x := 156) dX6_knownIn_64 flRX6_7 ly155 (by decide) (by decide) rfl hM.1 ?_
        refine r_cS2 (d := mX6_knownIn) (pc := 67) (dj := mX6_copies) dX6_knownIn_67 mlRX6_88 staX6_copies okX6_copies (by decide) rfl (Nat.le_of_ble_eq_true rfl) (by decide) (by decide) (Fn_X6_copies (k + 4) (arS (mdB I (I 157) (I 155 4) (cpF (I 159) (I 156)) (I 158)) 156 ((tkM (I 156) n m nc j).1)) P 159 156 ly159 ly156 (by decide)) ?_
        refine wpE (lv' := [(0, .inr (some 155)), (1, .inl nm), (2, .inl (I 156 (12 + nm))), (3, .inl (j : Int))]) (st' := []) (M' := (lay0, arS (mdB I (I 157) (I 155 4) (cpF (I 159) (I 156)) (I 158)) 156 (cpF ((tkM (I 156) n m nc j).1) (cpF (I 159) (I 156))), P)) rfl rfl (by refine memE ?_; exact mdB_cp156 _ _ _ _ _ _ _) ?_
        refine r_iload_n (d := mX6_knownIn) (pc := 70) (i := 3) (v := (j : Int)) dX6_knownIn_70 rfl rfl ?_
        exact r_iret (d := mX6_knownIn) (pc := 71) dX6_knownIn_71 rfl (rtI (by unfold kiV; first | (rw [if_pos (by omega), hjJ]; done) | rw [if_neg (by omega)]) (by refine memE ?_; first | (rw [kiI, if_pos (by omega), hjJ]; rfl) | rw [kiI, if_neg (by omega)])) (by decide) (by decide)
      · refine r_aload_n (d := mX6_knownIn) (pc := 36) (i := 0) (v := 155) dX6_knownIn_36 rfl rfl ?_
        refine r_getRs (d := mX6_knownIn) (pc := 37) (a := 155) (kd := 6) (j := 0) (x := 156) dX6_knownIn_37 flRX6_7 ly155 (by decide) (by decide) rfl hM.1 ?_
        refine r_iload_n (d := mX6_knownIn) (pc := 40) (i := 2) (v := (I 156 (12 + nm))) dX6_knownIn_40 rfl rfl ?_
        refine r_iconst (d := mX6_knownIn) (pc := 41) (n := 2) dX6_knownIn_41 ?_
        refine r_cS2 (d := mX6_knownIn) (pc := 42) (dj := mX6_at) dX6_knownIn_42 mlRX6_65 staX6_at okX6_at (by decide) rfl (Nat.le_of_ble_eq_true rfl) (by decide) (by decide) (Fn_X6_at (k + 4) (arS (mdB I (I 157) (I 155 4) (cpF (I 159) (I 156)) (I 158)) 156 ((tkM (I 156) n m nc j).1)) P (I 156 (12 + nm)) 2 (by omega) (by omega) (by omega) (by omega)) ?_
        refine r_ialds (d := mX6_knownIn) (pc := 45) (a := 156) (x := (((tkM (I 156) n m nc j).1) (28 + 5 * (I 156 (12 + nm)) + 2))) dX6_knownIn_45 ly156 (by omega) (by omega) (rfl) ?_
        refine r_if_ne (d := mX6_knownIn) (pc := 46) (tgt := 59) dX6_knownIn_46 (by decide) (fun h46 => ?_) (fun h46 => ?_)
        · have hjJ : j = J := by
            rcases Nat.lt_or_ge j J with q | q
            · exfalso; have := hJm (by omega) j q; omega
            · omega
          refine r_aload_n (d := mX6_knownIn) (pc := 59) (i := 0) (v := 155) dX6_knownIn_59 rfl rfl ?_
          refine r_getRs (d := mX6_knownIn) (pc := 60) (a := 155) (kd := 6) (j := 3) (x := 159) dX6_knownIn_60 flRX6_19 ly155 (by decide) (by decide) rfl hM.2.2.2.1 ?_
          refine r_aload_n (d := mX6_knownIn) (pc := 63) (i := 0) (v := 155) dX6_knownIn_63 rfl rfl ?_
          refine r_getRs (d := mX6_knownIn) (pc := 64) (a := 155) (kd := 6) (j := 0) (x := 156) dX6_knownIn_64 flRX6_7 ly155 (by decide) (by decide) rfl hM.1 ?_
          refine r_cS2 (d := mX6_knownIn) (pc := 67) (dj := mX6_copies) dX6_knownIn_67 mlRX6_88 staX6_copies okX6_copies (by decide) rfl (Nat.le_of_ble_eq_true rfl) (by decide) (by decide) (Fn_X6_copies (k + 4) (arS (mdB I (I 157) (I 155 4) (cpF (I 159) (I 156)) (I 158)) 156 ((tkM (I 156) n m nc j).1)) P 159 156 ly159 ly156 (by decide)) ?_
          refine wpE (lv' := [(0, .inr (some 155)), (1, .inl nm), (2, .inl (I 156 (12 + nm))), (3, .inl (j : Int))]) (st' := []) (M' := (lay0, arS (mdB I (I 157) (I 155 4) (cpF (I 159) (I 156)) (I 158)) 156 (cpF ((tkM (I 156) n m nc j).1) (cpF (I 159) (I 156))), P)) rfl rfl (by refine memE ?_; exact mdB_cp156 _ _ _ _ _ _ _) ?_
          refine r_iload_n (d := mX6_knownIn) (pc := 70) (i := 3) (v := (j : Int)) dX6_knownIn_70 rfl rfl ?_
          exact r_iret (d := mX6_knownIn) (pc := 71) dX6_knownIn_71 rfl (rtI (by unfold kiV; first | (rw [if_pos (by omega), hjJ]; done) | rw [if_neg (by omega)]) (by refine memE ?_; first | (rw [kiI, if_pos (by omega), hjJ]; rfl) | rw [kiI, if_neg (by omega)])) (by decide) (by decide)
        · have hi9 := tkM_inv (m := m) hO hV hn hc7 j
          have hjJ : j < J := by
            rcases Nat.lt_or_ge j J with q | q
            · exact q
            · exfalso; rw [show j = J by omega] at h46; rcases hJ0 (by omega) with z | z
              · omega
              · exact z h46
          refine r_aload_n (d := mX6_knownIn) (pc := 49) (i := 0) (v := 155) dX6_knownIn_49 rfl rfl ?_
          refine r_cV0 (d := mX6_knownIn) (pc := 50) (dj := mX6_ticks) (a := 155) (kd := 6) dX6_knownIn_50 mlRX6_117 inX6_ticks selX6_ticks rfl ly155 (by decide) okX6_ticks (by decide) rfl (Nat.le_of_ble_eq_true rfl) (by decide) (by decide) (Fn_X6_ticks k (arS (mdB I (I 157) (I 155 4) (cpF (I 159) (I 156)) (I 158)) 156 ((tkM (I 156) n m nc j).1)) P hM (tkM (I 156) n m nc j).2 hi9.2.2.2.2.1 (by have := hi9.2.2.2.2.2.1; omega) m ((hi9.1 2 (by decide) (by decide) (by decide) (by decide)).trans hm) hm3 nc ((hi9.1 0 (by decide) (by decide) (by decide) (by decide)).trans hc) hc7 hi9.2.2.1 hi9.2.2.2.1 (by have e9 : ((tkM (I 156) n m nc j).1) 4 = _ := hi9.2.2.2.2.2.2.1; have e8 := hi9.2.2.2.2.2.1; show 0 ≤ ((tkM (I 156) n m nc j).1) 4 ∧ ((tkM (I 156) n m nc j).1) 4 ≤ _; omega) (by have e9 : ((tkM (I 156) n m nc j).1) 1 = I 156 1 + (j : Int) := hi9.2.2.2.2.2.2.2; show 0 ≤ ((tkM (I 156) n m nc j).1) 1 ∧ ((tkM (I 156) n m nc j).1) 1 ≤ _; omega) (by have e9 : ((tkM (I 156) n m nc j).1) 8 = I 156 8 := hi9.1 8 (by decide) (by decide) (by decide) (by decide); show 0 ≤ ((tkM (I 156) n m nc j).1) 8 ∧ ((tkM (I 156) n m nc j).1) 8 ≤ _; omega) (by have e9 : ((tkM (I 156) n m nc j).1) 9 = I 156 9 := hi9.1 9 (by decide) (by decide) (by decide) (by decide); show 0 ≤ ((tkM (I 156) n m nc j).1) 9 ∧ ((tkM (I 156) n m nc j).1) 9 ≤ _; omega)) ?_
          refine wpE (lv' := [(0, .inr (some 155)), (1, .inl nm), (2, .inl (I 156 (12 + nm))), (3, .inl (j : Int))]) (st' := []) (M' := (lay0, arS (mdB I (I 157) (I 155 4) (cpF (I 159) (I 156)) (I 158)) 156 ((tkM (I 156) n m nc (j + 1)).1), P)) rfl rfl (memE (arS_arS _ _ _ _)) ?_
          refine r_iinc (d := mX6_knownIn) (pc := 53) (i := 3) (v := (j : Int)) (y := ((j + 1 : Nat) : Int)) (lv' := [(0, .inr (some 155)), (1, .inl nm), (2, .inl (I 156 (12 + nm))), (3, .inl ((j + 1 : Nat) : Int))]) dX6_knownIn_53 rfl (by decide) rfl (by omega) rfl ?_
          refine r_goto (d := mX6_knownIn) (pc := 56) (tgt := 32) dX6_knownIn_56 (by decide) ?_
          exact wpE (by simp) rfl (by rfl) (ih32 (by omega) (by omega))
    exact wpE (by simp) rfl (by rfl) (L32 0 (by omega))
  · refine r_iconst (d := mX6_knownIn) (pc := 7) (n := (-1)) dX6_knownIn_7 ?_
    exact r_iret (d := mX6_knownIn) (pc := 8) dX6_knownIn_8 rfl (rtI (by unfold kiV; first | (rw [if_pos (by omega), hjJ]; done) | rw [if_neg (by omega)]) (by refine memE ?_; first | (rw [kiI, if_pos (by omega), hjJ]; rfl) | rw [kiI, if_neg (by omega)])) (by decide) (by decide)
