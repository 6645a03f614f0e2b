/-! ===== the model: what it tells ===== -/
def lOK (l : Int → Int) : Prop := ∀ c : Int, 0 ≤ c → c < 7 → 0 ≤ l c ∧ l c ≤ 9999
def lcA (s l : Int → Int) : Nat → Int → Int
  | 0 => l
  | c + 1 => fset (lcA s l c) (c : Int) (s (28 + 5 * (c : Int) + 1))
def lcO (s l : Int → Int) : Nat → Int → Int
  | 0 => l
  | k + 1 => fset (lcO s l k) (s (111 + 7 * (k : Int) + 1)) (res (s (111 + 7 * (k : Int) + 0)) (lcO s l k (s (111 + 7 * (k : Int) + 2))) (lcO s l k (s (111 + 7 * (k : Int) + 3))))
def lcT (s l : Int → Int) (n nc : Nat) : Int → Int := lcO s (lcA s l nc) n
theorem fset_lOK {l : Int → Int} (h : lOK l) (i : Int) {v : Int} (h0 : 0 ≤ v) (h1 : v ≤ 9999) : lOK (fset l i v) := by
  intro c q0 q7
  by_cases hc : c = i
  · rw [hc, fset_at]; exact ⟨h0, h1⟩
  · rw [fset_ne _ _ hc]; exact h c q0 q7
theorem lcA_lOK {s l : Int → Int} (hv : vOK s) (h : lOK l) (c : Nat) (hc : c ≤ 7) : lOK (lcA s l c) := by
  induction c with
  | zero => exact h
  | succ c ih =>
    have hq := hv c (by omega) (by omega)
    exact fset_lOK (ih (by omega)) _ hq.1 hq.2
theorem lcO_lOK {s l : Int → Int} {n : Nat} (ho : oOK s n) (h : lOK l) (k : Nat) (hk : k ≤ n) : lOK (lcO s l k) := by
  induction k with
  | zero => exact h
  | succ k ih =>
    have hz := ho k (by omega)
    have hi := ih (by omega)
    have hr := res_rng (w := s (111 + 7 * (k : Int) + 0)) (hi _ hz.2.2.1.1 hz.2.2.1.2).1 (hi _ hz.2.2.2.1 hz.2.2.2.2).1
    exact fset_lOK hi _ hr.1 hr.2
theorem lcT_lOK {s l : Int → Int} {n nc : Nat} (ho : oOK s n) (hv : vOK s) (h : lOK l) (hc : nc ≤ 7) : lOK (lcT s l n nc) := lcO_lOK ho (lcA_lOK hv h nc hc) n (Nat.le_refl n)
def nmV (s l : Int → Int) (n nc : Nat) (nm w : Int) : Int := if ¬ ((0 ≤ nm ∧ nm ≤ 7) ∧ 0 ≤ w ∧ w ≤ 4) then -1 else if w = 2 ∨ s (12 + nm) < 0 then (if w = 1 ∨ w = 3 then -4 else s (20 + nm)) else if w = 0 then (if s (28 + 5 * s (12 + nm) + 2) = 1 then s (28 + 5 * s (12 + nm) + 1) else -4) else if w = 1 then s (12 + nm) else if w = 3 then onesF (nmask (fun i => s (12 + i)) (s (12 + nm)) 8) 8 else lcT s l n nc (s (12 + nm))
def nmI (I : mIt) (n nc : Nat) (nm w : Int) : mIt := if (0 ≤ nm ∧ nm ≤ 7) ∧ w = 4 ∧ 0 ≤ I 156 (12 + nm) then arS I 161 (lcT (I 156) (I 161) n nc) else I
def chV (s : Int → Int) (n m nc : Nat) (c w : Int) : Int := if ¬ ((0 ≤ c ∧ c < (nc : Int)) ∧ 0 ≤ w ∧ w ≤ 5) then -1 else if s (28 + 5 * c + 0) = 0 then -4 else if w = 0 then (if s (28 + 5 * c + 2) = 1 then s (28 + 5 * c + 1) else -4) else if w = 1 then nmask (fun i => s (12 + i)) c 8 else if w = 2 then mkM s c m else if w = 3 then rdM s c n else if w = 4 then (if ofM s c n = true then 1 else 0) else (if nxM s n m (-1) (-1) nc = c then 1 else 0)
def orV (s : Int → Int) (n : Nat) (k w : Int) : Int := if ¬ ((0 ≤ k ∧ k < (n : Int)) ∧ 0 ≤ w ∧ w ≤ 6) then -1 else if w < 4 then s (111 + 7 * k + w) else if w = 4 then (if s (111 + 7 * k + 4) < 0 then 0 else 1) else if w = 5 then (if s (111 + 7 * k + 4) < 0 then -4 else s (111 + 7 * k + 4) - s 1) else s (111 + 7 * k + 5)
set_option maxRecDepth 20000 in
set_option maxHeartbeats 4000000 in
theorem Fn_X6_toCome (k : Nat) (I : mIt) (P : mPt) (hM : isMd P) (n : Nat) (hn : I 156 3 = n) (hn6 : n ≤ 6) (nc : Nat) (hc : I 156 0 = nc) (hc7 : nc ≤ 7) (hO : oOK (I 156) n) (hV : vOK (I 156)) (hL : lOK (I 161)) (d : Int) (hd0 : 0 ≤ d) (hd7 : d < 7) : WP (k + 1) mX6_toCome none (0, 0) (Rt (some (.inl (lcT (I 156) (I 161) n nc d))) (lay0, arS I 161 (lcT (I 156) (I 161) n nc), P)) 0 [(0, .inr (some 155)), (1, .inl d)] [] (lay0, I, P) := by
  refine r_iconst (d := mX6_toCome) (pc := 0) (n := 0) dX6_toCome_0 ?_
  refine r_istore_n (d := mX6_toCome) (pc := 1) (i := 2) (lv' := [(0, .inr (some 155)), (1, .inl d), (2, .inl 0)]) dX6_toCome_1 rfl (by decide) rfl rfl ?_
  have L2 : ∀ c : Nat, c ≤ nc → WP (k + 1) mX6_toCome none (0, 0) (Rt (some (.inl (lcT (I 156) (I 161) n nc d))) (lay0, arS I 161 (lcT (I 156) (I 161) n nc), P)) 2 [(0, .inr (some 155)), (1, .inl d), (2, .inl (c : Int))] [] (lay0, arS I 161 (lcA (I 156) (I 161) c), P) := by
    refine loopN (nc) _ (fun c ih2 hj2 => ?_)
    refine r_iload_n (d := mX6_toCome) (pc := 2) (i := 2) (v := (c : Int)) dX6_toCome_2 rfl rfl ?_
    refine r_aload_n (d := mX6_toCome) (pc := 3) (i := 0) (v := 155) dX6_toCome_3 rfl rfl ?_
    refine r_getRs (d := mX6_toCome) (pc := 4) (a := 155) (kd := 6) (j := 0) (x := 156) dX6_toCome_4 flRX6_7 ly155 (by decide) (by decide) rfl hM.1 ?_
    refine r_iconst (d := mX6_toCome) (pc := 7) (n := 0) dX6_toCome_7 ?_
    refine r_ialds (d := mX6_toCome) (pc := 8) (a := 156) (x := (nc : Int)) dX6_toCome_8 ly156 (by decide) (by decide) (hc) ?_
    refine r_icmp_ge (d := mX6_toCome) (pc := 9) (tgt := 34) dX6_toCome_9 (by decide) (fun h9 => ?_) (fun h9 => ?_)
    · refine r_iconst (d := mX6_toCome) (pc := 34) (n := 0) dX6_toCome_34 ?_
      refine r_istore_n (d := mX6_toCome) (pc := 35) (i := 2) (lv' := [(0, .inr (some 155)), (1, .inl d), (2, .inl 0)]) dX6_toCome_35 rfl (by decide) rfl rfl ?_
      have L36 : ∀ z : Nat, z ≤ n → WP (k + 1) mX6_toCome none (0, 0) (Rt (some (.inl (lcT (I 156) (I 161) n nc d))) (lay0, arS I 161 (lcT (I 156) (I 161) n nc), P)) 36 [(0, .inr (some 155)), (1, .inl d), (2, .inl (z : Int))] [] (lay0, arS I 161 (lcO (I 156) (lcA (I 156) (I 161) nc) z), P) := by
        refine loopN (n) _ (fun z ih36 hj36 => ?_)
        refine r_iload_n (d := mX6_toCome) (pc := 36) (i := 2) (v := (z : Int)) dX6_toCome_36 rfl rfl ?_
        refine r_aload_n (d := mX6_toCome) (pc := 37) (i := 0) (v := 155) dX6_toCome_37 rfl rfl ?_
        refine r_getRs (d := mX6_toCome) (pc := 38) (a := 155) (kd := 6) (j := 0) (x := 156) dX6_toCome_38 flRX6_7 ly155 (by decide) (by decide) rfl hM.1 ?_
        refine r_iconst (d := mX6_toCome) (pc := 41) (n := 3) dX6_toCome_41 ?_
        refine r_ialds (d := mX6_toCome) (pc := 42) (a := 156) (x := (n : Int)) dX6_toCome_42 ly156 (by decide) (by decide) (hn) ?_
        refine r_icmp_ge (d := mX6_toCome) (pc := 43) (tgt := 110) dX6_toCome_43 (by decide) (fun h43 => ?_) (fun h43 => ?_)
        · refine r_aload_n (d := mX6_toCome) (pc := 110) (i := 0) (v := 155) dX6_toCome_110 rfl rfl ?_
          refine r_getRs (d := mX6_toCome) (pc := 111) (a := 155) (kd := 6) (j := 8) (x := 161) dX6_toCome_111 flRX6_25 ly155 (by decide) (by decide) rfl hM.2.2.2.2.2.1 ?_
          refine r_iload_n (d := mX6_toCome) (pc := 114) (i := 1) (v := d) dX6_toCome_114 rfl rfl ?_
          refine r_ialds (d := mX6_toCome) (pc := 115) (a := 161) (x := ((lcO (I 156) (lcA (I 156) (I 161) nc) z) d)) dX6_toCome_115 ly161 (by omega) (by omega) (rfl) ?_
          exact r_iret (d := mX6_toCome) (pc := 116) dX6_toCome_116 rfl (rtI (by rw [show z = n by omega]; rfl) (by refine memE ?_; rw [show z = n by omega]; rfl)) (by decide) (by decide)
        · have hz := hO z (by omega)
          have hla := lcO_lOK hO (lcA_lOK hV hL nc hc7) z (by omega)
          have hv1 := hla _ hz.2.2.1.1 hz.2.2.1.2
          have hv2 := hla _ hz.2.2.2.1 hz.2.2.2.2
          refine r_aload_n (d := mX6_toCome) (pc := 46) (i := 0) (v := 155) dX6_toCome_46 rfl rfl ?_
          refine r_getRs (d := mX6_toCome) (pc := 47) (a := 155) (kd := 6) (j := 8) (x := 161) dX6_toCome_47 flRX6_25 ly155 (by decide) (by decide) rfl hM.2.2.2.2.2.1 ?_
          refine r_aload_n (d := mX6_toCome) (pc := 50) (i := 0) (v := 155) dX6_toCome_50 rfl rfl ?_
          refine r_getRs (d := mX6_toCome) (pc := 51) (a := 155) (kd := 6) (j := 0) (x := 156) dX6_toCome_51 flRX6_7 ly155 (by decide) (by decide) rfl hM.1 ?_
          refine r_iload_n (d := mX6_toCome) (pc := 54) (i := 2) (v := (z : Int)) dX6_toCome_54 rfl rfl ?_
          refine r_iconst (d := mX6_toCome) (pc := 55) (n := 1) dX6_toCome_55 ?_
          refine r_cS2 (d := mX6_toCome) (pc := 56) (dj := mX6_ofOrder) dX6_toCome_56 mlRX6_47 staX6_ofOrder okX6_ofOrder (by decide) rfl (Nat.le_of_ble_eq_true rfl) (by decide) (by decide) (Fn_X6_ofOrder k (arS I 161 (lcO (I 156) (lcA (I 156) (I 161) nc) z)) P (z : Int) 1 (by omega) (by omega) (by omega) (by omega)) ?_
          refine r_ialds (d := mX6_toCome) (pc := 59) (a := 156) (x := (I 156 (111 + 7 * (z : Int) + 1))) dX6_toCome_59 ly156 (by omega) (by omega) (rfl) ?_
          refine r_aload_n (d := mX6_toCome) (pc := 60) (i := 0) (v := 155) dX6_toCome_60 rfl rfl ?_
          refine r_getRs (d := mX6_toCome) (pc := 61) (a := 155) (kd := 6) (j := 0) (x := 156) dX6_toCome_61 flRX6_7 ly155 (by decide) (by decide) rfl hM.1 ?_
          refine r_iload_n (d := mX6_toCome) (pc := 64) (i := 2) (v := (z : Int)) dX6_toCome_64 rfl rfl ?_
          refine r_iconst (d := mX6_toCome) (pc := 65) (n := 0) dX6_toCome_65 ?_
          refine r_cS2 (d := mX6_toCome) (pc := 66) (dj := mX6_ofOrder) dX6_toCome_66 mlRX6_47 staX6_ofOrder okX6_ofOrder (by decide) rfl (Nat.le_of_ble_eq_true rfl) (by decide) (by decide) (Fn_X6_ofOrder k (arS I 161 (lcO (I 156) (lcA (I 156) (I 161) nc) z)) P (z : Int) 0 (by omega) (by omega) (by omega) (by omega)) ?_
          refine r_ialds (d := mX6_toCome) (pc := 69) (a := 156) (x := (I 156 (111 + 7 * (z : Int) + 0))) dX6_toCome_69 ly156 (by omega) (by omega) (rfl) ?_
          refine r_aload_n (d := mX6_toCome) (pc := 70) (i := 0) (v := 155) dX6_toCome_70 rfl rfl ?_
          refine r_getRs (d := mX6_toCome) (pc := 71) (a := 155) (kd := 6) (j := 8) (x := 161) dX6_toCome_71 flRX6_25 ly155 (by decide) (by decide) rfl hM.2.2.2.2.2.1 ?_
          refine r_aload_n (d := mX6_toCome) (pc := 74) (i := 0) (v := 155) dX6_toCome_74 rfl rfl ?_
          refine r_getRs (d := mX6_toCome) (pc := 75) (a := 155) (kd := 6) (j := 0) (x := 156) dX6_toCome_75 flRX6_7 ly155 (by decide) (by decide) rfl hM.1 ?_
          refine r_iload_n (d := mX6_toCome) (pc := 78) (i := 2) (v := (z : Int)) dX6_toCome_78 rfl rfl ?_
          refine r_iconst (d := mX6_toCome) (pc := 79) (n := 2) dX6_toCome_79 ?_
          refine r_cS2 (d := mX6_toCome) (pc := 80) (dj := mX6_ofOrder) dX6_toCome_80 mlRX6_47 staX6_ofOrder okX6_ofOrder (by decide) rfl (Nat.le_of_ble_eq_true rfl) (by decide) (by decide) (Fn_X6_ofOrder k (arS I 161 (lcO (I 156) (lcA (I 156) (I 161) nc) z)) P (z : Int) 2 (by omega) (by omega) (by omega) (by omega)) ?_
          refine r_ialds (d := mX6_toCome) (pc := 83) (a := 156) (x := (I 156 (111 + 7 * (z : Int) + 2))) dX6_toCome_83 ly156 (by omega) (by omega) (rfl) ?_
          refine r_ialds (d := mX6_toCome) (pc := 84) (a := 161) (x := ((lcO (I 156) (lcA (I 156) (I 161) nc) z) (I 156 (111 + 7 * (z : Int) + 2)))) dX6_toCome_84 ly161 (by omega) (by omega) (rfl) ?_
          refine r_aload_n (d := mX6_toCome) (pc := 85) (i := 0) (v := 155) dX6_toCome_85 rfl rfl ?_
          refine r_getRs (d := mX6_toCome) (pc := 86) (a := 155) (kd := 6) (j := 8) (x := 161) dX6_toCome_86 flRX6_25 ly155 (by decide) (by decide) rfl hM.2.2.2.2.2.1 ?_
          refine r_aload_n (d := mX6_toCome) (pc := 89) (i := 0) (v := 155) dX6_toCome_89 rfl rfl ?_
          refine r_getRs (d := mX6_toCome) (pc := 90) (a := 155) (kd := 6) (j := 0) (x := 156) dX6_toCome_90 flRX6_7 ly155 (by decide) (by decide) rfl hM.1 ?_
          refine r_iload_n (d := mX6_toCome) (pc := 93) (i := 2) (v := (z : Int)) dX6_toCome_93 rfl rfl ?_
          refine r_iconst (d := mX6_toCome) (pc := 94) (n := 3) dX6_toCome_94 ?_
          refine r_cS2 (d := mX6_toCome) (pc := 95) (dj := mX6_ofOrder) dX6_toCome_95 mlRX6_47 staX6_ofOrder okX6_ofOrder (by decide) rfl (Nat.le_of_ble_eq_true rfl) (by decide) (by decide) (Fn_X6_ofOrder k (arS I 161 (lcO (I 156) (lcA (I 156) (I 161) nc) z)) P (z : Int) 3 (by omega) (by omega) (by omega) (by omega)) ?_
          refine r_ialds (d := mX6_toCome) (pc := 98) (a := 156) (x := (I 156 (111 + 7 * (z : Int) + 3))) dX6_toCome_98 ly156 (by omega) (by omega) (rfl) ?_
          refine r_ialds (d := mX6_toCome) (pc := 99) (a := 161) (x := ((lcO (I 156) (lcA (I 156) (I 161) nc) z) (I 156 (111 + 7 * (z : Int) + 3)))) dX6_toCome_99 ly161 (by omega) (by omega) (rfl) ?_
          refine r_cS3 (d := mX6_toCome) (pc := 100) (dj := mX6_result) dX6_toCome_100 mlRX6_107 staX6_result okX6_result (by decide) rfl (Nat.le_of_ble_eq_true rfl) (by decide) (by decide) (Fn_X6_result k (arS I 161 (lcO (I 156) (lcA (I 156) (I 161) nc) z)) P (I 156 (111 + 7 * (z : Int) + 0)) ((lcO (I 156) (lcA (I 156) (I 161) nc) z) (I 156 (111 + 7 * (z : Int) + 2))) ((lcO (I 156) (lcA (I 156) (I 161) nc) z) (I 156 (111 + 7 * (z : Int) + 3))) (by omega) (by omega) (by omega) (by omega) (by omega)) ?_
          refine r_iasts (d := mX6_toCome) (pc := 103) (a := 161) (lay0, mUp (arS I 161 (lcO (I 156) (lcA (I 156) (I 161) nc) z)) 161 (I 156 (111 + 7 * (z : Int) + 1)) (res (I 156 (111 + 7 * (z : Int) + 0)) ((lcO (I 156) (lcA (I 156) (I 161) nc) z) (I 156 (111 + 7 * (z : Int) + 2))) ((lcO (I 156) (lcA (I 156) (I 161) nc) z) (I 156 (111 + 7 * (z : Int) + 3)))), P) dX6_toCome_103 ly161 (by omega) (by omega) rfl ?_
          refine r_iinc (d := mX6_toCome) (pc := 104) (i := 2) (v := (z : Int)) (y := ((z + 1 : Nat) : Int)) (lv' := [(0, .inr (some 155)), (1, .inl d), (2, .inl ((z + 1 : Nat) : Int))]) dX6_toCome_104 rfl (by decide) rfl (by omega) rfl ?_
          refine r_goto (d := mX6_toCome) (pc := 107) (tgt := 36) dX6_toCome_107 (by decide) ?_
          exact wpE (by simp) rfl (by refine memE ?_; rw [arS_up]; rfl) (ih36 (by omega) (by omega))
      exact wpE (by simp) rfl (by refine memE ?_; rw [show c = nc by omega]; rfl) (L36 0 (by omega))
    · refine r_aload_n (d := mX6_toCome) (pc := 12) (i := 0) (v := 155) dX6_toCome_12 rfl rfl ?_
      refine r_getRs (d := mX6_toCome) (pc := 13) (a := 155) (kd := 6) (j := 8) (x := 161) dX6_toCome_13 flRX6_25 ly155 (by decide) (by decide) rfl hM.2.2.2.2.2.1 ?_
      refine r_iload_n (d := mX6_toCome) (pc := 16) (i := 2) (v := (c : Int)) dX6_toCome_16 rfl rfl ?_
      refine r_aload_n (d := mX6_toCome) (pc := 17) (i := 0) (v := 155) dX6_toCome_17 rfl rfl ?_
      refine r_getRs (d := mX6_toCome) (pc := 18) (a := 155) (kd := 6) (j := 0) (x := 156) dX6_toCome_18 flRX6_7 ly155 (by decide) (by decide) rfl hM.1 ?_
      refine r_iload_n (d := mX6_toCome) (pc := 21) (i := 2) (v := (c : Int)) dX6_toCome_21 rfl rfl ?_
      refine r_iconst (d := mX6_toCome) (pc := 22) (n := 1) dX6_toCome_22 ?_
      refine r_cS2 (d := mX6_toCome) (pc := 23) (dj := mX6_at) dX6_toCome_23 mlRX6_65 staX6_at okX6_at (by decide) rfl (Nat.le_of_ble_eq_true rfl) (by decide) (by decide) (Fn_X6_at k (arS I 161 (lcA (I 156) (I 161) c)) P (c : Int) 1 (by omega) (by omega) (by omega) (by omega)) ?_
      refine r_ialds (d := mX6_toCome) (pc := 26) (a := 156) (x := (I 156 (28 + 5 * (c : Int) + 1))) dX6_toCome_26 ly156 (by omega) (by omega) (rfl) ?_
      refine r_iasts (d := mX6_toCome) (pc := 27) (a := 161) (lay0, mUp (arS I 161 (lcA (I 156) (I 161) c)) 161 (c : Int) (I 156 (28 + 5 * (c : Int) + 1)), P) dX6_toCome_27 ly161 (by omega) (by omega) rfl ?_
      refine r_iinc (d := mX6_toCome) (pc := 28) (i := 2) (v := (c : Int)) (y := ((c + 1 : Nat) : Int)) (lv' := [(0, .inr (some 155)), (1, .inl d), (2, .inl ((c + 1 : Nat) : Int))]) dX6_toCome_28 rfl (by decide) rfl (by omega) rfl ?_
      refine r_goto (d := mX6_toCome) (pc := 31) (tgt := 2) dX6_toCome_31 (by decide) ?_
      exact wpE (by simp) rfl (by refine memE ?_; rw [arS_up]; rfl) (ih2 (by omega) (by omega))
  exact wpE (by simp) rfl (by refine memE ?_; exact (arS_self _ _).symm) (L2 0 (by omega))
set_option maxRecDepth 20000 in
set_option maxHeartbeats 4000000 in
theorem Fn_X6_nameOf (k : Nat) (I : mIt) (P : mPt) (hM : isMd P) (n : Nat) (hn : I 156 3 = n) (hn6 : n ≤ 6) (nc : Nat) (hc : I 156 0 = nc) (hc7 : nc ≤ 7) (hO : oOK (I 156) n) (hV : vOK (I 156)) (hL : lOK (I 161)) (hseat : ∀ i : Int, 12 ≤ i → i < 20 → I 156 i < 7) (nm w : Int) : WP (k + 2) mX6_nameOf none (0, 0) (Rt (some (.inl (nmV (I 156) (I 161) n nc nm w))) (lay0, nmI I n nc nm w, P)) 0 [(0, .inr (some 155)), (1, .inl nm), (2, .inl w)] [] (lay0, I, P) := by
  refine r_iload_n (d := mX6_nameOf) (pc := 0) (i := 1) (v := nm) dX6_nameOf_0 rfl rfl ?_
  refine r_cS1 (d := mX6_nameOf) (pc := 1) (dj := mX6_isName) dX6_nameOf_1 mlRX6_85 staX6_isName okX6_isName (by decide) rfl (Nat.le_of_ble_eq_true rfl) (by decide) (by decide) (Fn_X6_isName k I P   nm) ?_
  refine r_ifb_eq (d := mX6_nameOf) (pc := 4) (tgt := 16) dX6_nameOf_4 (by decide) (fun h4 => ?_) (fun h4 => ?_)
  · refine r_iconst (d := mX6_nameOf) (pc := 16) (n := (-1)) dX6_nameOf_16 ?_
    exact r_iret (d := mX6_nameOf) (pc := 17) dX6_nameOf_17 rfl (rtI (by rw [nmV, if_pos (by omega)]) (by refine memE ?_; rw [nmI, if_neg (by omega)])) (by decide) (by decide)
  · refine r_iload_n (d := mX6_nameOf) (pc := 7) (i := 2) (v := w) dX6_nameOf_7 rfl rfl ?_
    refine r_iconst (d := mX6_nameOf) (pc := 8) (n := 0) dX6_nameOf_8 ?_
    refine r_iconst (d := mX6_nameOf) (pc := 9) (n := 4) dX6_nameOf_9 ?_
    refine r_cS3 (d := mX6_nameOf) (pc := 10) (dj := mX6_in) dX6_nameOf_10 mlRX6_43 staX6_in okX6_in (by decide) rfl (Nat.le_of_ble_eq_true rfl) (by decide) (by decide) (Fn_X6_in (k + 1) I P   w 0 4) ?_
    refine r_ifb_ne (d := mX6_nameOf) (pc := 13) (tgt := 18) dX6_nameOf_13 (by decide) (fun h13 => ?_) (fun h13 => ?_)
    · refine r_aload_n (d := mX6_nameOf) (pc := 18) (i := 0) (v := 155) dX6_nameOf_18 rfl rfl ?_
      refine r_getRs (d := mX6_nameOf) (pc := 19) (a := 155) (kd := 6) (j := 0) (x := 156) dX6_nameOf_19 flRX6_7 ly155 (by decide) (by decide) rfl hM.1 ?_
      refine r_bipush (d := mX6_nameOf) (pc := 22) (n := 12) dX6_nameOf_22 ?_
      refine r_iload_n (d := mX6_nameOf) (pc := 24) (i := 1) (v := nm) dX6_nameOf_24 rfl rfl ?_
      refine r_iadd (d := mX6_nameOf) (pc := 25) dX6_nameOf_25 ?_
      refine r_ialds (d := mX6_nameOf) (pc := 26) (a := 156) (x := (I 156 (12 + nm))) dX6_nameOf_26 ly156 (by omega) (by omega) (rfl) ?_
      refine r_istore_n (d := mX6_nameOf) (pc := 27) (i := 3) (lv' := [(0, .inr (some 155)), (1, .inl nm), (2, .inl w), (3, .inl (I 156 (12 + nm)))]) dX6_nameOf_27 rfl (by decide) rfl rfl ?_
      have hst := hseat (12 + nm) (by omega) (by omega)
      have hnk := nmask_256 (fun i => I 156 (12 + i)) (I 156 (12 + nm))
      refine r_iload_n (d := mX6_nameOf) (pc := 28) (i := 2) (v := w) dX6_nameOf_28 rfl rfl ?_
      refine r_iconst (d := mX6_nameOf) (pc := 29) (n := 2) dX6_nameOf_29 ?_
      refine r_icmp_eq (d := mX6_nameOf) (pc := 30) (tgt := 37) dX6_nameOf_30 (by decide) (fun h30 => ?_) (fun h30 => ?_)
      · refine r_iload_n (d := mX6_nameOf) (pc := 37) (i := 2) (v := w) dX6_nameOf_37 rfl rfl ?_
        refine r_iconst (d := mX6_nameOf) (pc := 38) (n := 1) dX6_nameOf_38 ?_
        refine r_icmp_eq (d := mX6_nameOf) (pc := 39) (tgt := 47) dX6_nameOf_39 (by decide) (fun h39 => ?_) (fun h39 => ?_)
        · refine r_bipush (d := mX6_nameOf) (pc := 47) (n := (-4)) dX6_nameOf_47 ?_
          refine r_goto (d := mX6_nameOf) (pc := 49) (tgt := 61) dX6_nameOf_49 (by decide) ?_
          exact r_iret (d := mX6_nameOf) (pc := 61) dX6_nameOf_61 rfl (rtI (by rw [nmV, if_neg (by omega), if_pos (by omega)]; first | rw [if_pos (by omega)] | rw [if_neg (by omega)]) (by refine memE ?_; rw [nmI, if_neg (by omega)])) (by decide) (by decide)
        · refine r_iload_n (d := mX6_nameOf) (pc := 42) (i := 2) (v := w) dX6_nameOf_42 rfl rfl ?_
          refine r_iconst (d := mX6_nameOf) (pc := 43) (n := 3) dX6_nameOf_43 ?_
          refine r_icmp_ne (d := mX6_nameOf) (pc := 44) (tgt := 52) dX6_nameOf_44 (by decide) (fun h44 => ?_) (fun h44 => ?_)
          · refine r_aload_n (d := mX6_nameOf) (pc := 52) (i := 0) (v := 155) dX6_nameOf_52 rfl rfl ?_
            refine r_getRs (d := mX6_nameOf) (pc := 53) (a := 155) (kd := 6) (j := 0) (x := 156) dX6_nameOf_53 flRX6_7 ly155 (by decide) (by decide) rfl hM.1 ?_
            refine r_bipush (d := mX6_nameOf) (pc := 56) (n := 20) dX6_nameOf_56 ?_
            refine r_iload_n (d := mX6_nameOf) (pc := 58) (i := 1) (v := nm) dX6_nameOf_58 rfl rfl ?_
            refine r_iadd (d := mX6_nameOf) (pc := 59) dX6_nameOf_59 ?_
            refine r_ialds (d := mX6_nameOf) (pc := 60) (a := 156) (x := (I 156 (20 + nm))) dX6_nameOf_60 ly156 (by omega) (by omega) (rfl) ?_
            exact r_iret (d := mX6_nameOf) (pc := 61) dX6_nameOf_61 rfl (rtI (by rw [nmV, if_neg (by omega), if_pos (by omega)]; first | rw [if_pos (by omega)] | rw [if_neg (by omega)]) (by refine memE ?_; rw [nmI, if_neg (by omega)])) (by decide) (by decide)
          · refine r_bipush (d := mX6_nameOf) (pc := 47) (n := (-4)) dX6_nameOf_47 ?_
            refine r_goto (d := mX6_nameOf) (pc := 49) (tgt := 61) dX6_nameOf_49 (by decide) ?_
            exact r_iret (d := mX6_nameOf) (pc := 61) dX6_nameOf_61 rfl (rtI (by rw [nmV, if_neg (by omega), if_pos (by omega)]; first | rw [if_pos (by omega)] | rw [if_neg (by omega)]) (by refine memE ?_; rw [nmI, if_neg (by omega)])) (by decide) (by decide)
      · refine r_iload_n (d := mX6_nameOf) (pc := 33) (i := 3) (v := (I 156 (12 + nm))) dX6_nameOf_33 rfl rfl ?_
        refine r_if_ge (d := mX6_nameOf) (pc := 34) (tgt := 62) dX6_nameOf_34 (by decide) (fun h34 => ?_) (fun h34 => ?_)
        · refine r_iload_n (d := mX6_nameOf) (pc := 62) (i := 2) (v := w) dX6_nameOf_62 rfl rfl ?_
          refine r_if_ne (d := mX6_nameOf) (pc := 63) (tgt := 96) dX6_nameOf_63 (by decide) (fun h63 => ?_) (fun h63 => ?_)
          · refine r_iload_n (d := mX6_nameOf) (pc := 96) (i := 2) (v := w) dX6_nameOf_96 rfl rfl ?_
            refine r_iconst (d := mX6_nameOf) (pc := 97) (n := 1) dX6_nameOf_97 ?_
            refine r_icmp_ne (d := mX6_nameOf) (pc := 98) (tgt := 105) dX6_nameOf_98 (by decide) (fun h98 => ?_) (fun h98 => ?_)
            · refine r_iload_n (d := mX6_nameOf) (pc := 105) (i := 2) (v := w) dX6_nameOf_105 rfl rfl ?_
              refine r_iconst (d := mX6_nameOf) (pc := 106) (n := 3) dX6_nameOf_106 ?_
              refine r_icmp_ne (d := mX6_nameOf) (pc := 107) (tgt := 121) dX6_nameOf_107 (by decide) (fun h107 => ?_) (fun h107 => ?_)
              · refine r_aload_n (d := mX6_nameOf) (pc := 121) (i := 0) (v := 155) dX6_nameOf_121 rfl rfl ?_
                refine r_iload_n (d := mX6_nameOf) (pc := 122) (i := 3) (v := (I 156 (12 + nm))) dX6_nameOf_122 rfl rfl ?_
                refine r_cV1 (d := mX6_nameOf) (pc := 123) (dj := mX6_toCome) (a := 155) (kd := 6) dX6_nameOf_123 mlRX6_129 inX6_toCome selX6_toCome rfl ly155 (by decide) okX6_toCome (by decide) rfl (Nat.le_of_ble_eq_true rfl) (by decide) (by decide) (Fn_X6_toCome k I P hM n hn hn6 nc hc hc7 hO hV hL (I 156 (12 + nm)) (by omega) (by omega)) ?_
                exact r_iret (d := mX6_nameOf) (pc := 126) dX6_nameOf_126 rfl (rtI (by rw [nmV, if_neg (by omega), if_neg (by omega), if_neg (by omega)]; rw [if_neg (by omega), if_neg (by omega)]) (by refine memE ?_; first | rw [nmI, if_pos (by omega)] | rw [nmI, if_neg (by omega)])) (by decide) (by decide)
              · refine r_aload_n (d := mX6_nameOf) (pc := 110) (i := 0) (v := 155) dX6_nameOf_110 rfl rfl ?_
                refine r_iload_n (d := mX6_nameOf) (pc := 111) (i := 3) (v := (I 156 (12 + nm))) dX6_nameOf_111 rfl rfl ?_
                refine r_cV1 (d := mX6_nameOf) (pc := 112) (dj := mX6_names) (a := 155) (kd := 6) dX6_nameOf_112 mlRX6_123 inX6_names selX6_names rfl ly155 (by decide) okX6_names (by decide) rfl (Nat.le_of_ble_eq_true rfl) (by decide) (by decide) (Fn_X6_names (k + 1) I P hM  (I 156 (12 + nm))) ?_
                refine r_cS1 (d := mX6_nameOf) (pc := 115) (dj := mX6_ones) dX6_nameOf_115 mlRX6_126 staX6_ones okX6_ones (by decide) rfl (Nat.le_of_ble_eq_true rfl) (by decide) (by decide) (Fn_X6_ones (k + 1) I P (nmask (fun i => (I 156) (12 + i)) (I 156 (12 + nm)) 8) (by omega) (by omega)) ?_
                refine r_goto (d := mX6_nameOf) (pc := 118) (tgt := 126) dX6_nameOf_118 (by decide) ?_
                exact r_iret (d := mX6_nameOf) (pc := 126) dX6_nameOf_126 rfl (rtI (by rw [nmV, if_neg (by omega), if_neg (by omega), if_neg (by omega)]; rw [if_neg (by omega), if_pos (by omega)]) (by refine memE ?_; first | rw [nmI, if_pos (by omega)] | rw [nmI, if_neg (by omega)])) (by decide) (by decide)
            · refine r_iload_n (d := mX6_nameOf) (pc := 101) (i := 3) (v := (I 156 (12 + nm))) dX6_nameOf_101 rfl rfl ?_
              refine r_goto (d := mX6_nameOf) (pc := 102) (tgt := 126) dX6_nameOf_102 (by decide) ?_
              exact r_iret (d := mX6_nameOf) (pc := 126) dX6_nameOf_126 rfl (rtI (by rw [nmV, if_neg (by omega), if_neg (by omega), if_neg (by omega)]; rw [if_pos (by omega)]) (by refine memE ?_; first | rw [nmI, if_pos (by omega)] | rw [nmI, if_neg (by omega)])) (by decide) (by decide)
          · refine r_aload_n (d := mX6_nameOf) (pc := 66) (i := 0) (v := 155) dX6_nameOf_66 rfl rfl ?_
            refine r_getRs (d := mX6_nameOf) (pc := 67) (a := 155) (kd := 6) (j := 0) (x := 156) dX6_nameOf_67 flRX6_7 ly155 (by decide) (by decide) rfl hM.1 ?_
            refine r_iload_n (d := mX6_nameOf) (pc := 70) (i := 3) (v := (I 156 (12 + nm))) dX6_nameOf_70 rfl rfl ?_
            refine r_iconst (d := mX6_nameOf) (pc := 71) (n := 2) dX6_nameOf_71 ?_
            refine r_cS2 (d := mX6_nameOf) (pc := 72) (dj := mX6_at) dX6_nameOf_72 mlRX6_65 staX6_at okX6_at (by decide) rfl (Nat.le_of_ble_eq_true rfl) (by decide) (by decide) (Fn_X6_at (k + 1) I P (I 156 (12 + nm)) 2 (by omega) (by omega) (by omega) (by omega)) ?_
            refine r_ialds (d := mX6_nameOf) (pc := 75) (a := 156) (x := (I 156 (28 + 5 * (I 156 (12 + nm)) + 2))) dX6_nameOf_75 ly156 (by omega) (by omega) (rfl) ?_
            refine r_iconst (d := mX6_nameOf) (pc := 76) (n := 1) dX6_nameOf_76 ?_
            refine r_icmp_ne (d := mX6_nameOf) (pc := 77) (tgt := 93) dX6_nameOf_77 (by decide) (fun h77 => ?_) (fun h77 => ?_)
            · refine r_bipush (d := mX6_nameOf) (pc := 93) (n := (-4)) dX6_nameOf_93 ?_
              exact r_iret (d := mX6_nameOf) (pc := 95) dX6_nameOf_95 rfl (rtI (by rw [nmV, if_neg (by omega), if_neg (by omega), if_pos (by omega)]; first | rw [if_pos (by omega)] | rw [if_neg (by omega)]) (by refine memE ?_; rw [nmI, if_neg (by omega)])) (by decide) (by decide)
            · refine r_aload_n (d := mX6_nameOf) (pc := 80) (i := 0) (v := 155) dX6_nameOf_80 rfl rfl ?_
              refine r_getRs (d := mX6_nameOf) (pc := 81) (a := 155) (kd := 6) (j := 0) (x := 156) dX6_nameOf_81 flRX6_7 ly155 (by decide) (by decide) rfl hM.1 ?_
              refine r_iload_n (d := mX6_nameOf) (pc := 84) (i := 3) (v := (I 156 (12 + nm))) dX6_nameOf_84 rfl rfl ?_
              refine r_iconst (d := mX6_nameOf) (pc := 85) (n := 1) dX6_nameOf_85 ?_
              refine r_cS2 (d := mX6_nameOf) (pc := 86) (dj := mX6_at) dX6_nameOf_86 mlRX6_65 staX6_at okX6_at (by decide) rfl (Nat.le_of_ble_eq_true rfl) (by decide) (by decide) (Fn_X6_at (k + 1) I P (I 156 (12 + nm)) 1 (by omega) (by omega) (by omega) (by omega)) ?_
              refine r_ialds (d := mX6_nameOf) (pc := 89) (a := 156) (x := (I 156 (28 + 5 * (I 156 (12 + nm)) + 1))) dX6_nameOf_89 ly156 (by omega) (by omega) (rfl) ?_
              refine r_goto (d := mX6_nameOf) (pc := 90) (tgt := 95) dX6_nameOf_90 (by decide) ?_
              exact r_iret (d := mX6_nameOf) (pc := 95) dX6_nameOf_95 rfl (rtI (by rw [nmV, if_neg (by omega), if_neg (by omega), if_pos (by omega)]; first | rw [if_pos (by omega)] | rw [if_neg (by omega)]) (by refine memE ?_; rw [nmI, if_neg (by omega)])) (by decide) (by decide)
        · refine r_iload_n (d := mX6_nameOf) (pc := 37) (i := 2) (v := w) dX6_nameOf_37 rfl rfl ?_
          refine r_iconst (d := mX6_nameOf) (pc := 38) (n := 1) dX6_nameOf_38 ?_
          refine r_icmp_eq (d := mX6_nameOf) (pc := 39) (tgt := 47) dX6_nameOf_39 (by decide) (fun h39 => ?_) (fun h39 => ?_)
          · refine r_bipush (d := mX6_nameOf) (pc := 47) (n := (-4)) dX6_nameOf_47 ?_
            refine r_goto (d := mX6_nameOf) (pc := 49) (tgt := 61) dX6_nameOf_49 (by decide) ?_
            exact r_iret (d := mX6_nameOf) (pc := 61) dX6_nameOf_61 rfl (rtI (by rw [nmV, if_neg (by omega), if_pos (by omega)]; first | rw [if_pos (by omega)] | rw [if_neg (by omega)]) (by refine memE ?_; rw [nmI, if_neg (by omega)])) (by decide) (by decide)
          · refine r_iload_n (d := mX6_nameOf) (pc := 42) (i := 2) (v := w) dX6_nameOf_42 rfl rfl ?_
            refine r_iconst (d := mX6_nameOf) (pc := 43) (n := 3) dX6_nameOf_43 ?_
            refine r_icmp_ne (d := mX6_nameOf) (pc := 44) (tgt := 52) dX6_nameOf_44 (by decide) (fun h44 => ?_) (fun h44 => ?_)
            · refine r_aload_n (d := mX6_nameOf) (pc := 52) (i := 0) (v := 155) dX6_nameOf_52 rfl rfl ?_
              refine r_getRs (d := mX6_nameOf) (pc := 53) (a := 155) (kd := 6) (j := 0) (x := 156) dX6_nameOf_53 flRX6_7 ly155 (by decide) (by decide) rfl hM.1 ?_
              refine r_bipush (d := mX6_nameOf) (pc := 56) (n := 20) dX6_nameOf_56 ?_
              refine r_iload_n (d := mX6_nameOf) (pc := 58) (i := 1) (v := nm) dX6_nameOf_58 rfl rfl ?_
              refine r_iadd (d := mX6_nameOf) (pc := 59) dX6_nameOf_59 ?_
              refine r_ialds (d := mX6_nameOf) (pc := 60) (a := 156) (x := (I 156 (20 + nm))) dX6_nameOf_60 ly156 (by omega) (by omega) (rfl) ?_
              exact r_iret (d := mX6_nameOf) (pc := 61) dX6_nameOf_61 rfl (rtI (by rw [nmV, if_neg (by omega), if_pos (by omega)]; first | rw [if_pos (by omega)] | rw [if_neg (by omega)]) (by refine memE ?_; rw [nmI, if_neg (by omega)])) (by decide) (by decide)
            · refine r_bipush (d := mX6_nameOf) (pc := 47) (n := (-4)) dX6_nameOf_47 ?_
              refine r_goto (d := mX6_nameOf) (pc := 49) (tgt := 61) dX6_nameOf_49 (by decide) ?_
              exact r_iret (d := mX6_nameOf) (pc := 61) dX6_nameOf_61 rfl (rtI (by rw [nmV, if_neg (by omega), if_pos (by omega)]; first | rw [if_pos (by omega)] | rw [if_neg (by omega)]) (by refine memE ?_; rw [nmI, if_neg (by omega)])) (by decide) (by decide)
    · refine r_iconst (d := mX6_nameOf) (pc := 16) (n := (-1)) dX6_nameOf_16 ?_
      exact r_iret (d := mX6_nameOf) (pc := 17) dX6_nameOf_17 rfl (rtI (by rw [nmV, if_pos (by omega)]) (by refine memE ?_; rw [nmI, if_neg (by omega)])) (by decide) (by decide)
set_option maxRecDepth 20000 in
set_option maxHeartbeats 4000000 in
theorem Fn_X6_chairOf (k : Nat) (I : mIt) (P : mPt) (hM : isMd P) (n : Nat) (hn : I 156 3 = n) (hn6 : n ≤ 6) (m : Nat) (hm : I 156 2 = m) (hm3 : m ≤ 3) (nc : Nat) (hc : I 156 0 = nc) (hc7 : nc ≤ 7) (c w : Int) : WP (k + 3) mX6_chairOf none (0, 0) (Rt (some (.inl (chV (I 156) n m nc c w))) (lay0, I, P)) 0 [(0, .inr (some 155)), (1, .inl c), (2, .inl w)] [] (lay0, I, P) := by
  refine r_iload_n (d := mX6_chairOf) (pc := 0) (i := 1) (v := c) dX6_chairOf_0 rfl rfl ?_
  refine r_iconst (d := mX6_chairOf) (pc := 1) (n := 0) dX6_chairOf_1 ?_
  refine r_aload_n (d := mX6_chairOf) (pc := 2) (i := 0) (v := 155) dX6_chairOf_2 rfl rfl ?_
  refine r_getRs (d := mX6_chairOf) (pc := 3) (a := 155) (kd := 6) (j := 0) (x := 156) dX6_chairOf_3 flRX6_7 ly155 (by decide) (by decide) rfl hM.1 ?_
  refine r_iconst (d := mX6_chairOf) (pc := 6) (n := 0) dX6_chairOf_6 ?_
  refine r_ialds (d := mX6_chairOf) (pc := 7) (a := 156) (x := (nc : Int)) dX6_chairOf_7 ly156 (by decide) (by decide) (hc) ?_
  refine r_iconst (d := mX6_chairOf) (pc := 8) (n := 1) dX6_chairOf_8 ?_
  refine r_isub (d := mX6_chairOf) (pc := 9) dX6_chairOf_9 ?_
  refine r_cS3 (d := mX6_chairOf) (pc := 10) (dj := mX6_in) dX6_chairOf_10 mlRX6_43 staX6_in okX6_in (by decide) rfl (Nat.le_of_ble_eq_true rfl) (by decide) (by decide) (Fn_X6_in (k + 2) I P   c 0 ((nc : Int) - 1)) ?_
  refine r_ifb_eq (d := mX6_chairOf) (pc := 13) (tgt := 25) dX6_chairOf_13 (by decide) (fun h13 => ?_) (fun h13 => ?_)
  · refine r_iconst (d := mX6_chairOf) (pc := 25) (n := (-1)) dX6_chairOf_25 ?_
    exact r_iret (d := mX6_chairOf) (pc := 26) dX6_chairOf_26 rfl (rtI (by unfold chV; repeat (first | rw [if_pos (by first | assumption | omega)] | rw [if_neg (by first | assumption | omega)])) (by rfl)) (by decide) (by decide)
  · refine r_iload_n (d := mX6_chairOf) (pc := 16) (i := 2) (v := w) dX6_chairOf_16 rfl rfl ?_
    refine r_iconst (d := mX6_chairOf) (pc := 17) (n := 0) dX6_chairOf_17 ?_
    refine r_iconst (d := mX6_chairOf) (pc := 18) (n := 5) dX6_chairOf_18 ?_
    refine r_cS3 (d := mX6_chairOf) (pc := 19) (dj := mX6_in) dX6_chairOf_19 mlRX6_43 staX6_in okX6_in (by decide) rfl (Nat.le_of_ble_eq_true rfl) (by decide) (by decide) (Fn_X6_in (k + 2) I P   w 0 5) ?_
    refine r_ifb_ne (d := mX6_chairOf) (pc := 22) (tgt := 27) dX6_chairOf_22 (by decide) (fun h22 => ?_) (fun h22 => ?_)
    · refine r_aload_n (d := mX6_chairOf) (pc := 27) (i := 0) (v := 155) dX6_chairOf_27 rfl rfl ?_
      refine r_getRs (d := mX6_chairOf) (pc := 28) (a := 155) (kd := 6) (j := 0) (x := 156) dX6_chairOf_28 flRX6_7 ly155 (by decide) (by decide) rfl hM.1 ?_
      refine r_iload_n (d := mX6_chairOf) (pc := 31) (i := 1) (v := c) dX6_chairOf_31 rfl rfl ?_
      refine r_iconst (d := mX6_chairOf) (pc := 32) (n := 0) dX6_chairOf_32 ?_
      refine r_cS2 (d := mX6_chairOf) (pc := 33) (dj := mX6_at) dX6_chairOf_33 mlRX6_65 staX6_at okX6_at (by decide) rfl (Nat.le_of_ble_eq_true rfl) (by decide) (by decide) (Fn_X6_at (k + 2) I P c 0 (by omega) (by omega) (by omega) (by omega)) ?_
      refine r_ialds (d := mX6_chairOf) (pc := 36) (a := 156) (x := (I 156 (28 + 5 * c + 0))) dX6_chairOf_36 ly156 (by omega) (by omega) (rfl) ?_
      refine r_if_ne (d := mX6_chairOf) (pc := 37) (tgt := 43) dX6_chairOf_37 (by decide) (fun h37 => ?_) (fun h37 => ?_)
      · refine r_iload_n (d := mX6_chairOf) (pc := 43) (i := 2) (v := w) dX6_chairOf_43 rfl rfl ?_
        by_cases hs44_0 : w = 0
        · rw [hs44_0]
          refine r_tableIn (d := mX6_chairOf) (pc := 44) (tgt := 80) (off := 36) dX6_chairOf_44 (by decide) (by decide) rfl (by decide) ?_
          refine r_aload_n (d := mX6_chairOf) (pc := 80) (i := 0) (v := 155) dX6_chairOf_80 rfl rfl ?_
          refine r_getRs (d := mX6_chairOf) (pc := 81) (a := 155) (kd := 6) (j := 0) (x := 156) dX6_chairOf_81 flRX6_7 ly155 (by decide) (by decide) rfl hM.1 ?_
          refine r_iload_n (d := mX6_chairOf) (pc := 84) (i := 1) (v := c) dX6_chairOf_84 rfl rfl ?_
          refine r_iconst (d := mX6_chairOf) (pc := 85) (n := 2) dX6_chairOf_85 ?_
          refine r_cS2 (d := mX6_chairOf) (pc := 86) (dj := mX6_at) dX6_chairOf_86 mlRX6_65 staX6_at okX6_at (by decide) rfl (Nat.le_of_ble_eq_true rfl) (by decide) (by decide) (Fn_X6_at (k + 2) I P c 2 (by omega) (by omega) (by omega) (by omega)) ?_
          refine r_ialds (d := mX6_chairOf) (pc := 89) (a := 156) (x := (I 156 (28 + 5 * c + 2))) dX6_chairOf_89 ly156 (by omega) (by omega) (rfl) ?_
          refine r_iconst (d := mX6_chairOf) (pc := 90) (n := 1) dX6_chairOf_90 ?_
          refine r_icmp_ne (d := mX6_chairOf) (pc := 91) (tgt := 107) dX6_chairOf_91 (by decide) (fun h91 => ?_) (fun h91 => ?_)
          · refine r_bipush (d := mX6_chairOf) (pc := 107) (n := (-4)) dX6_chairOf_107 ?_
            exact r_iret (d := mX6_chairOf) (pc := 109) dX6_chairOf_109 rfl (rtI (by unfold chV; repeat (first | rw [if_pos (by first | assumption | omega)] | rw [if_neg (by first | assumption | omega)])) (by rfl)) (by decide) (by decide)
          · refine r_aload_n (d := mX6_chairOf) (pc := 94) (i := 0) (v := 155) dX6_chairOf_94 rfl rfl ?_
            refine r_getRs (d := mX6_chairOf) (pc := 95) (a := 155) (kd := 6) (j := 0) (x := 156) dX6_chairOf_95 flRX6_7 ly155 (by decide) (by decide) rfl hM.1 ?_
            refine r_iload_n (d := mX6_chairOf) (pc := 98) (i := 1) (v := c) dX6_chairOf_98 rfl rfl ?_
            refine r_iconst (d := mX6_chairOf) (pc := 99) (n := 1) dX6_chairOf_99 ?_
            refine r_cS2 (d := mX6_chairOf) (pc := 100) (dj := mX6_at) dX6_chairOf_100 mlRX6_65 staX6_at okX6_at (by decide) rfl (Nat.le_of_ble_eq_true rfl) (by decide) (by decide) (Fn_X6_at (k + 2) I P c 1 (by omega) (by omega) (by omega) (by omega)) ?_
            refine r_ialds (d := mX6_chairOf) (pc := 103) (a := 156) (x := (I 156 (28 + 5 * c + 1))) dX6_chairOf_103 ly156 (by omega) (by omega) (rfl) ?_
            refine r_goto (d := mX6_chairOf) (pc := 104) (tgt := 109) dX6_chairOf_104 (by decide) ?_
            exact r_iret (d := mX6_chairOf) (pc := 109) dX6_chairOf_109 rfl (rtI (by unfold chV; repeat (first | rw [if_pos (by first | assumption | omega)] | rw [if_neg (by first | assumption | omega)])) (by rfl)) (by decide) (by decide)
        by_cases hs44_1 : w = 1
        · rw [hs44_1]
          refine r_tableIn (d := mX6_chairOf) (pc := 44) (tgt := 110) (off := 66) dX6_chairOf_44 (by decide) (by decide) rfl (by decide) ?_
          refine r_aload_n (d := mX6_chairOf) (pc := 110) (i := 0) (v := 155) dX6_chairOf_110 rfl rfl ?_
          refine r_iload_n (d := mX6_chairOf) (pc := 111) (i := 1) (v := c) dX6_chairOf_111 rfl rfl ?_
          refine r_cV1 (d := mX6_chairOf) (pc := 112) (dj := mX6_names) (a := 155) (kd := 6) dX6_chairOf_112 mlRX6_123 inX6_names selX6_names rfl ly155 (by decide) okX6_names (by decide) rfl (Nat.le_of_ble_eq_true rfl) (by decide) (by decide) (Fn_X6_names (k + 2) I P hM  c) ?_
          exact r_iret (d := mX6_chairOf) (pc := 115) dX6_chairOf_115 rfl (rtI (by unfold chV; repeat (first | rw [if_pos (by first | assumption | omega)] | rw [if_neg (by first | assumption | omega)])) (by rfl)) (by decide) (by decide)
        by_cases hs44_2 : w = 2
        · rw [hs44_2]
          refine r_tableIn (d := mX6_chairOf) (pc := 44) (tgt := 116) (off := 72) dX6_chairOf_44 (by decide) (by decide) rfl (by decide) ?_
          refine r_aload_n (d := mX6_chairOf) (pc := 116) (i := 0) (v := 155) dX6_chairOf_116 rfl rfl ?_
          refine r_iload_n (d := mX6_chairOf) (pc := 117) (i := 1) (v := c) dX6_chairOf_117 rfl rfl ?_
          refine r_cV1 (d := mX6_chairOf) (pc := 118) (dj := mX6_marksOf) (a := 155) (kd := 6) dX6_chairOf_118 mlRX6_55 inX6_marksOf selX6_marksOf rfl ly155 (by decide) okX6_marksOf (by decide) rfl (Nat.le_of_ble_eq_true rfl) (by decide) (by decide) (Fn_X6_marksOf (k + 2) I P hM m (hm) hm3 c) ?_
          exact r_iret (d := mX6_chairOf) (pc := 121) dX6_chairOf_121 rfl (rtI (by unfold chV; repeat (first | rw [if_pos (by first | assumption | omega)] | rw [if_neg (by first | assumption | omega)])) (by rfl)) (by decide) (by decide)
        by_cases hs44_3 : w = 3
        · rw [hs44_3]
          refine r_tableIn (d := mX6_chairOf) (pc := 44) (tgt := 122) (off := 78) dX6_chairOf_44 (by decide) (by decide) rfl (by decide) ?_
          refine r_aload_n (d := mX6_chairOf) (pc := 122) (i := 0) (v := 155) dX6_chairOf_122 rfl rfl ?_
          refine r_iload_n (d := mX6_chairOf) (pc := 123) (i := 1) (v := c) dX6_chairOf_123 rfl rfl ?_
          refine r_cV1 (d := mX6_chairOf) (pc := 124) (dj := mX6_readers) (a := 155) (kd := 6) dX6_chairOf_124 mlRX6_59 inX6_readers selX6_readers rfl ly155 (by decide) okX6_readers (by decide) rfl (Nat.le_of_ble_eq_true rfl) (by decide) (by decide) (Fn_X6_readers (k + 1) I P hM n (hn) hn6 c) ?_
          exact r_iret (d := mX6_chairOf) (pc := 127) dX6_chairOf_127 rfl (rtI (by unfold chV; repeat (first | rw [if_pos (by first | assumption | omega)] | rw [if_neg (by first | assumption | omega)])) (by rfl)) (by decide) (by decide)
        by_cases hs44_4 : w = 4
        · rw [hs44_4]
          refine r_tableIn (d := mX6_chairOf) (pc := 44) (tgt := 128) (off := 84) dX6_chairOf_44 (by decide) (by decide) rfl (by decide) ?_
          refine r_aload_n (d := mX6_chairOf) (pc := 128) (i := 0) (v := 155) dX6_chairOf_128 rfl rfl ?_
          refine r_iload_n (d := mX6_chairOf) (pc := 129) (i := 1) (v := c) dX6_chairOf_129 rfl rfl ?_
          refine r_cV1 (d := mX6_chairOf) (pc := 130) (dj := mX6_isOfOrder) (a := 155) (kd := 6) dX6_chairOf_130 mlRX6_62 inX6_isOfOrder selX6_isOfOrder rfl ly155 (by decide) okX6_isOfOrder (by decide) rfl (Nat.le_of_ble_eq_true rfl) (by decide) (by decide) (Fn_X6_isOfOrder (k + 1) I P hM n (hn) hn6 c) ?_
          refine r_ifb_eq (d := mX6_chairOf) (pc := 133) (tgt := 140) dX6_chairOf_133 (by decide) (fun h133 => ?_) (fun h133 => ?_)
          · refine r_iconst (d := mX6_chairOf) (pc := 140) (n := 0) dX6_chairOf_140 ?_
            exact r_iret (d := mX6_chairOf) (pc := 141) dX6_chairOf_141 rfl (rtI (by unfold chV; repeat (first | rw [if_pos (by first | assumption | omega)] | rw [if_neg (by first | assumption | omega)])) (by rfl)) (by decide) (by decide)
          · refine r_iconst (d := mX6_chairOf) (pc := 136) (n := 1) dX6_chairOf_136 ?_
            refine r_goto (d := mX6_chairOf) (pc := 137) (tgt := 141) dX6_chairOf_137 (by decide) ?_
            exact r_iret (d := mX6_chairOf) (pc := 141) dX6_chairOf_141 rfl (rtI (by unfold chV; repeat (first | rw [if_pos (by first | assumption | omega)] | rw [if_neg (by first | assumption | omega)])) (by rfl)) (by decide) (by decide)
        refine r_tableOut (d := mX6_chairOf) (pc := 44) (tgt := 142) dX6_chairOf_44 (by omega) (by decide) ?_
        refine r_aload_n (d := mX6_chairOf) (pc := 142) (i := 0) (v := 155) dX6_chairOf_142 rfl rfl ?_
        refine r_iconst (d := mX6_chairOf) (pc := 143) (n := (-1)) dX6_chairOf_143 ?_
        refine r_iconst (d := mX6_chairOf) (pc := 144) (n := (-1)) dX6_chairOf_144 ?_
        refine r_cV2 (d := mX6_chairOf) (pc := 145) (dj := mX6_next) (a := 155) (kd := 6) dX6_chairOf_145 mlRX6_71 inX6_next selX6_next rfl ly155 (by decide) okX6_next (by decide) rfl (Nat.le_of_ble_eq_true rfl) (by decide) (by decide) (Fn_X6_next k I P hM n hn hn6 m hm hm3 nc hc hc7 (-1) (-1) (by omega) (by omega) (by omega) (by omega) (by omega)) ?_
        refine r_iload_n (d := mX6_chairOf) (pc := 148) (i := 1) (v := c) dX6_chairOf_148 rfl rfl ?_
        refine r_icmp_ne (d := mX6_chairOf) (pc := 149) (tgt := 156) dX6_chairOf_149 (by decide) (fun h149 => ?_) (fun h149 => ?_)
        · refine r_iconst (d := mX6_chairOf) (pc := 156) (n := 0) dX6_chairOf_156 ?_
          exact r_iret (d := mX6_chairOf) (pc := 157) dX6_chairOf_157 rfl (rtI (by unfold chV; repeat (first | rw [if_pos (by first | assumption | omega)] | rw [if_neg (by first | assumption | omega)])) (by rfl)) (by decide) (by decide)
        · refine r_iconst (d := mX6_chairOf) (pc := 152) (n := 1) dX6_chairOf_152 ?_
          refine r_goto (d := mX6_chairOf) (pc := 153) (tgt := 157) dX6_chairOf_153 (by decide) ?_
          exact r_iret (d := mX6_chairOf) (pc := 157) dX6_chairOf_157 rfl (rtI (by unfold chV; repeat (first | rw [if_pos (by first | assumption | omega)] | rw [if_neg (by first | assumption | omega)])) (by rfl)) (by decide) (by decide)
      · refine r_bipush (d := mX6_chairOf) (pc := 40) (n := (-4)) dX6_chairOf_40 ?_
        exact r_iret (d := mX6_chairOf) (pc := 42) dX6_chairOf_42 rfl (rtI (by unfold chV; repeat (first | rw [if_pos (by first | assumption | omega)] | rw [if_neg (by first | assumption | omega)])) (by rfl)) (by decide) (by decide)
    · refine r_iconst (d := mX6_chairOf) (pc := 25) (n := (-1)) dX6_chairOf_25 ?_
      exact r_iret (d := mX6_chairOf) (pc := 26) dX6_chairOf_26 rfl (rtI (by unfold chV; repeat (first | rw [if_pos (by first | assumption | omega)] | rw [if_neg (by first | assumption | omega)])) (by rfl)) (by decide) (by decide)
set_option maxRecDepth 20000 in
set_option maxHeartbeats 4000000 in
theorem Fn_X6_orderOf (k : Nat) (I : mIt) (P : mPt) (hM : isMd P) (n : Nat) (hn : I 156 3 = n) (hn6 : n ≤ 6) (hs1 : 0 ≤ I 156 1 ∧ I 156 1 ≤ 60000) (hdue : ∀ i : Int, 0 ≤ i → i < (n : Int) → -1 ≤ I 156 (111 + 7 * i + 4) ∧ I 156 (111 + 7 * i + 4) ≤ 60100) (x w : Int) : WP (k + 4) mX6_orderOf none (0, 0) (Rt (some (.inl (orV (I 156) n x w))) (lay0, I, P)) 0 [(0, .inr (some 155)), (1, .inl x), (2, .inl w)] [] (lay0, I, P) := by
  refine r_iload_n (d := mX6_orderOf) (pc := 0) (i := 1) (v := x) dX6_orderOf_0 rfl rfl ?_
  refine r_if_lt (d := mX6_orderOf) (pc := 1) (tgt := 24) dX6_orderOf_1 (by decide) (fun h1 => ?_) (fun h1 => ?_)
  · refine r_iconst (d := mX6_orderOf) (pc := 24) (n := (-1)) dX6_orderOf_24 ?_
    exact r_iret (d := mX6_orderOf) (pc := 25) dX6_orderOf_25 rfl (rtI (by rw [orV, if_pos (by omega)]) (by rfl)) (by decide) (by decide)
  · refine r_iload_n (d := mX6_orderOf) (pc := 4) (i := 1) (v := x) dX6_orderOf_4 rfl rfl ?_
    refine r_aload_n (d := mX6_orderOf) (pc := 5) (i := 0) (v := 155) dX6_orderOf_5 rfl rfl ?_
    refine r_getRs (d := mX6_orderOf) (pc := 6) (a := 155) (kd := 6) (j := 0) (x := 156) dX6_orderOf_6 flRX6_7 ly155 (by decide) (by decide) rfl hM.1 ?_
    refine r_iconst (d := mX6_orderOf) (pc := 9) (n := 3) dX6_orderOf_9 ?_
    refine r_ialds (d := mX6_orderOf) (pc := 10) (a := 156) (x := (n : Int)) dX6_orderOf_10 ly156 (by decide) (by decide) (hn) ?_
    refine r_icmp_ge (d := mX6_orderOf) (pc := 11) (tgt := 24) dX6_orderOf_11 (by decide) (fun h11 => ?_) (fun h11 => ?_)
    · refine r_iconst (d := mX6_orderOf) (pc := 24) (n := (-1)) dX6_orderOf_24 ?_
      exact r_iret (d := mX6_orderOf) (pc := 25) dX6_orderOf_25 rfl (rtI (by rw [orV, if_pos (by omega)]) (by rfl)) (by decide) (by decide)
    · refine r_iload_n (d := mX6_orderOf) (pc := 14) (i := 2) (v := w) dX6_orderOf_14 rfl rfl ?_
      refine r_iconst (d := mX6_orderOf) (pc := 15) (n := 0) dX6_orderOf_15 ?_
      refine r_bipush (d := mX6_orderOf) (pc := 16) (n := 6) dX6_orderOf_16 ?_
      refine r_cS3 (d := mX6_orderOf) (pc := 18) (dj := mX6_in) dX6_orderOf_18 mlRX6_43 staX6_in okX6_in (by decide) rfl (Nat.le_of_ble_eq_true rfl) (by decide) (by decide) (Fn_X6_in (k + 3) I P   w 0 6) ?_
      refine r_ifb_ne (d := mX6_orderOf) (pc := 21) (tgt := 26) dX6_orderOf_21 (by decide) (fun h21 => ?_) (fun h21 => ?_)
      · have hdx := hdue x (by omega) (by omega)
        refine r_aload_n (d := mX6_orderOf) (pc := 26) (i := 0) (v := 155) dX6_orderOf_26 rfl rfl ?_
        refine r_getRs (d := mX6_orderOf) (pc := 27) (a := 155) (kd := 6) (j := 0) (x := 156) dX6_orderOf_27 flRX6_7 ly155 (by decide) (by decide) rfl hM.1 ?_
        refine r_iload_n (d := mX6_orderOf) (pc := 30) (i := 1) (v := x) dX6_orderOf_30 rfl rfl ?_
        refine r_iconst (d := mX6_orderOf) (pc := 31) (n := 4) dX6_orderOf_31 ?_
        refine r_cS2 (d := mX6_orderOf) (pc := 32) (dj := mX6_ofOrder) dX6_orderOf_32 mlRX6_47 staX6_ofOrder okX6_ofOrder (by decide) rfl (Nat.le_of_ble_eq_true rfl) (by decide) (by decide) (Fn_X6_ofOrder (k + 3) I P x 4 (by omega) (by omega) (by omega) (by omega)) ?_
        refine r_ialds (d := mX6_orderOf) (pc := 35) (a := 156) (x := (I 156 (111 + 7 * x + 4))) dX6_orderOf_35 ly156 (by omega) (by omega) (rfl) ?_
        refine r_istore_n (d := mX6_orderOf) (pc := 36) (i := 3) (lv' := [(0, .inr (some 155)), (1, .inl x), (2, .inl w), (3, .inl (I 156 (111 + 7 * x + 4)))]) dX6_orderOf_36 rfl (by decide) rfl rfl ?_
        refine r_iload_n (d := mX6_orderOf) (pc := 37) (i := 2) (v := w) dX6_orderOf_37 rfl rfl ?_
        refine r_iconst (d := mX6_orderOf) (pc := 38) (n := 4) dX6_orderOf_38 ?_
        refine r_icmp_ge (d := mX6_orderOf) (pc := 39) (tgt := 53) dX6_orderOf_39 (by decide) (fun h39 => ?_) (fun h39 => ?_)
        · refine r_iload_n (d := mX6_orderOf) (pc := 53) (i := 2) (v := w) dX6_orderOf_53 rfl rfl ?_
          refine r_iconst (d := mX6_orderOf) (pc := 54) (n := 4) dX6_orderOf_54 ?_
          refine r_icmp_ne (d := mX6_orderOf) (pc := 55) (tgt := 70) dX6_orderOf_55 (by decide) (fun h55 => ?_) (fun h55 => ?_)
          · refine r_iload_n (d := mX6_orderOf) (pc := 70) (i := 2) (v := w) dX6_orderOf_70 rfl rfl ?_
            refine r_iconst (d := mX6_orderOf) (pc := 71) (n := 5) dX6_orderOf_71 ?_
            refine r_icmp_ne (d := mX6_orderOf) (pc := 72) (tgt := 95) dX6_orderOf_72 (by decide) (fun h72 => ?_) (fun h72 => ?_)
            · refine r_aload_n (d := mX6_orderOf) (pc := 95) (i := 0) (v := 155) dX6_orderOf_95 rfl rfl ?_
              refine r_getRs (d := mX6_orderOf) (pc := 96) (a := 155) (kd := 6) (j := 0) (x := 156) dX6_orderOf_96 flRX6_7 ly155 (by decide) (by decide) rfl hM.1 ?_
              refine r_iload_n (d := mX6_orderOf) (pc := 99) (i := 1) (v := x) dX6_orderOf_99 rfl rfl ?_
              refine r_iconst (d := mX6_orderOf) (pc := 100) (n := 5) dX6_orderOf_100 ?_
              refine r_cS2 (d := mX6_orderOf) (pc := 101) (dj := mX6_ofOrder) dX6_orderOf_101 mlRX6_47 staX6_ofOrder okX6_ofOrder (by decide) rfl (Nat.le_of_ble_eq_true rfl) (by decide) (by decide) (Fn_X6_ofOrder (k + 3) I P x 5 (by omega) (by omega) (by omega) (by omega)) ?_
              refine r_ialds (d := mX6_orderOf) (pc := 104) (a := 156) (x := (I 156 (111 + 7 * x + 5))) dX6_orderOf_104 ly156 (by omega) (by omega) (rfl) ?_
              exact r_iret (d := mX6_orderOf) (pc := 105) dX6_orderOf_105 rfl (rtI (by rw [orV, if_neg (by omega)]; rw [if_neg (by omega), if_neg (by omega), if_neg (by omega)]) (by rfl)) (by decide) (by decide)
            · refine r_iload_n (d := mX6_orderOf) (pc := 75) (i := 3) (v := (I 156 (111 + 7 * x + 4))) dX6_orderOf_75 rfl rfl ?_
              refine r_if_ge (d := mX6_orderOf) (pc := 76) (tgt := 84) dX6_orderOf_76 (by decide) (fun h76 => ?_) (fun h76 => ?_)
              · refine r_iload_n (d := mX6_orderOf) (pc := 84) (i := 3) (v := (I 156 (111 + 7 * x + 4))) dX6_orderOf_84 rfl rfl ?_
                refine r_aload_n (d := mX6_orderOf) (pc := 85) (i := 0) (v := 155) dX6_orderOf_85 rfl rfl ?_
                refine r_getRs (d := mX6_orderOf) (pc := 86) (a := 155) (kd := 6) (j := 0) (x := 156) dX6_orderOf_86 flRX6_7 ly155 (by decide) (by decide) rfl hM.1 ?_
                refine r_iconst (d := mX6_orderOf) (pc := 89) (n := 1) dX6_orderOf_89 ?_
                refine r_ialds (d := mX6_orderOf) (pc := 90) (a := 156) (x := (I 156 1)) dX6_orderOf_90 ly156 (by decide) (by decide) (rfl) ?_
                refine r_isub (d := mX6_orderOf) (pc := 91) dX6_orderOf_91 ?_
                refine r_goto (d := mX6_orderOf) (pc := 92) (tgt := 105) dX6_orderOf_92 (by decide) ?_
                exact r_iret (d := mX6_orderOf) (pc := 105) dX6_orderOf_105 rfl (rtI (by rw [orV, if_neg (by omega)]; rw [if_neg (by omega), if_neg (by omega), if_pos (by omega)]; first | rw [if_pos (by omega)] | rw [if_neg (by omega)]) (by rfl)) (by decide) (by decide)
              · refine r_bipush (d := mX6_orderOf) (pc := 79) (n := (-4)) dX6_orderOf_79 ?_
                refine r_goto (d := mX6_orderOf) (pc := 81) (tgt := 105) dX6_orderOf_81 (by decide) ?_
                exact r_iret (d := mX6_orderOf) (pc := 105) dX6_orderOf_105 rfl (rtI (by rw [orV, if_neg (by omega)]; rw [if_neg (by omega), if_neg (by omega), if_pos (by omega)]; first | rw [if_pos (by omega)] | rw [if_neg (by omega)]) (by rfl)) (by decide) (by decide)
          · refine r_iload_n (d := mX6_orderOf) (pc := 58) (i := 3) (v := (I 156 (111 + 7 * x + 4))) dX6_orderOf_58 rfl rfl ?_
            refine r_if_ge (d := mX6_orderOf) (pc := 59) (tgt := 66) dX6_orderOf_59 (by decide) (fun h59 => ?_) (fun h59 => ?_)
            · refine r_iconst (d := mX6_orderOf) (pc := 66) (n := 1) dX6_orderOf_66 ?_
              refine r_goto (d := mX6_orderOf) (pc := 67) (tgt := 105) dX6_orderOf_67 (by decide) ?_
              exact r_iret (d := mX6_orderOf) (pc := 105) dX6_orderOf_105 rfl (rtI (by rw [orV, if_neg (by omega)]; rw [if_neg (by omega), if_pos (by omega)]; first | rw [if_pos (by omega)] | rw [if_neg (by omega)]) (by rfl)) (by decide) (by decide)
            · refine r_iconst (d := mX6_orderOf) (pc := 62) (n := 0) dX6_orderOf_62 ?_
              refine r_goto (d := mX6_orderOf) (pc := 63) (tgt := 105) dX6_orderOf_63 (by decide) ?_
              exact r_iret (d := mX6_orderOf) (pc := 105) dX6_orderOf_105 rfl (rtI (by rw [orV, if_neg (by omega)]; rw [if_neg (by omega), if_pos (by omega)]; first | rw [if_pos (by omega)] | rw [if_neg (by omega)]) (by rfl)) (by decide) (by decide)
        · refine r_aload_n (d := mX6_orderOf) (pc := 42) (i := 0) (v := 155) dX6_orderOf_42 rfl rfl ?_
          refine r_getRs (d := mX6_orderOf) (pc := 43) (a := 155) (kd := 6) (j := 0) (x := 156) dX6_orderOf_43 flRX6_7 ly155 (by decide) (by decide) rfl hM.1 ?_
          refine r_iload_n (d := mX6_orderOf) (pc := 46) (i := 1) (v := x) dX6_orderOf_46 rfl rfl ?_
          refine r_iload_n (d := mX6_orderOf) (pc := 47) (i := 2) (v := w) dX6_orderOf_47 rfl rfl ?_
          refine r_cS2 (d := mX6_orderOf) (pc := 48) (dj := mX6_ofOrder) dX6_orderOf_48 mlRX6_47 staX6_ofOrder okX6_ofOrder (by decide) rfl (Nat.le_of_ble_eq_true rfl) (by decide) (by decide) (Fn_X6_ofOrder (k + 3) I P x w (by omega) (by omega) (by omega) (by omega)) ?_
          refine r_ialds (d := mX6_orderOf) (pc := 51) (a := 156) (x := (I 156 (111 + 7 * x + w))) dX6_orderOf_51 ly156 (by omega) (by omega) (rfl) ?_
          exact r_iret (d := mX6_orderOf) (pc := 52) dX6_orderOf_52 rfl (rtI (by rw [orV, if_neg (by omega)]; rw [if_pos (by omega)]) (by rfl)) (by decide) (by decide)
      · refine r_iconst (d := mX6_orderOf) (pc := 24) (n := (-1)) dX6_orderOf_24 ?_
        exact r_iret (d := mX6_orderOf) (pc := 25) dX6_orderOf_25 rfl (rtI (by rw [orV, if_pos (by omega)]) (by rfl)) (by decide) (by decide)
