/-! ===== the model: ticks ===== -/
def oOK (s : Int → Int) (n : Nat) : Prop := ∀ k : Nat, k < n → (0 ≤ s (111 + 7 * (k : Int) + 0) ∧ s (111 + 7 * (k : Int) + 0) ≤ 2) ∧ (0 ≤ s (111 + 7 * (k : Int) + 1) ∧ s (111 + 7 * (k : Int) + 1) < 7) ∧ (0 ≤ s (111 + 7 * (k : Int) + 2) ∧ s (111 + 7 * (k : Int) + 2) < 7) ∧ (0 ≤ s (111 + 7 * (k : Int) + 3) ∧ s (111 + 7 * (k : Int) + 3) < 7)
def vOK (s : Int → Int) : Prop := ∀ c : Int, 0 ≤ c → c < 7 → 0 ≤ s (28 + 5 * c + 1) ∧ s (28 + 5 * c + 1) ≤ 9999
theorem ikS_hi (s : Int → Int) (c v : Int) {i : Int} (h : 63 ≤ i) (hc : c < 7) : ikS s c v i = s i := by
  unfold ikS
  rw [fset_ne _ _ (by omega), fset_ne _ _ (by omega), fset_ne _ _ (by omega)]
theorem ikS_lo2 (s : Int → Int) (c v : Int) {i : Int} (h : i < 28) (hc : 0 ≤ c) : ikS s c v i = s i := by
  unfold ikS
  rw [fset_ne _ _ (by omega), fset_ne _ _ (by omega), fset_ne _ _ (by omega)]
theorem drS_lo (s : Int → Int) (n o : Nat) {i : Int} (h : i < 111) (h3 : i ≠ 3) : drS s n o i = s i := by
  unfold drS drJ
  rw [if_neg h3, if_neg (by omega)]
theorem drS_3 (s : Int → Int) (n o : Nat) : drS s n o 3 = (n : Int) - 1 := rfl
theorem drS_ord (s : Int → Int) (n o k : Nat) (w : Int) (hw0 : 0 ≤ w) (hw : w < 7) (ho : o < n) (hk : k < n - 1) : drS s n o (111 + 7 * (k : Int) + w) = if o ≤ k then s (111 + 7 * ((k + 1 : Nat) : Int) + w) else s (111 + 7 * (k : Int) + w) := by
  unfold drS drJ
  rw [if_neg (by omega)]
  by_cases h : o ≤ k
  · rw [if_pos h, if_pos (by omega)]
    congr 1
    omega
  · rw [if_neg h, if_neg (by omega)]
def dnP (s : Int → Int) (k : Nat) : Prop := 0 ≤ s (111 + 7 * (k : Int) + 4) ∧ s (111 + 7 * (k : Int) + 4) ≤ s 1
def dnI (s : Int → Int) (k : Nat) : Int → Int := ikS s (s (111 + 7 * (k : Int) + 1)) (res (s (111 + 7 * (k : Int) + 0)) (s (28 + 5 * (s (111 + 7 * (k : Int) + 2)) + 1)) (s (28 + 5 * (s (111 + 7 * (k : Int) + 3)) + 1)))
def dnT (s : Int → Int) (n k : Nat) : Int → Int := fset (drS (dnI s k) n k) 4 (s 4 + 1)
def dnS : Nat → (Int → Int) → Nat → Nat → (Int → Int) × Nat
  | 0, s, n, _ => (s, n)
  | f + 1, s, n, k => if 0 ≤ s (111 + 7 * (k : Int) + 4) ∧ s (111 + 7 * (k : Int) + 4) ≤ s 1 then dnS f (dnT s n k) (n - 1) k else dnS f s n (k + 1)
theorem dnT_lo {s : Int → Int} {n k : Nat} (ho : oOK s n) (hk : k < n) {i : Int} (h : i < 28) (h3 : i ≠ 3) (h4 : i ≠ 4) : dnT s n k i = s i := by
  have hz := ho k hk
  unfold dnT dnI
  rw [fset_ne _ _ h4, drS_lo _ _ _ (by omega) h3, ikS_lo2 _ _ _ h hz.2.1.1]
theorem dnT_mk {s : Int → Int} {n k : Nat} (ho : oOK s n) (hk : k < n) {i : Int} (h : 63 ≤ i) (h2 : i < 111) : dnT s n k i = s i := by
  have hz := ho k hk
  unfold dnT dnI
  rw [fset_ne _ _ (by omega), drS_lo _ _ _ h2 (by omega), ikS_hi _ _ _ h hz.2.1.2]
theorem dnT_3 (s : Int → Int) (n k : Nat) (hk : k < n) : dnT s n k 3 = ((n - 1 : Nat) : Int) := by
  unfold dnT
  rw [fset_ne _ _ (by decide), drS_3]
  omega
theorem dnT_4 (s : Int → Int) (n k : Nat) : dnT s n k 4 = s 4 + 1 := fset_at _ _ _
theorem dnT_ord {s : Int → Int} {n o : Nat} (ho : oOK s n) (hon : o < n) (k : Nat) (hk : k < n - 1) (w : Int) (hw0 : 0 ≤ w) (hw : w < 7) : dnT s n o (111 + 7 * (k : Int) + w) = if o ≤ k then s (111 + 7 * ((k + 1 : Nat) : Int) + w) else s (111 + 7 * (k : Int) + w) := by
  have hz := ho o hon
  unfold dnT dnI
  rw [fset_ne _ _ (by omega), drS_ord _ _ _ _ _ hw0 hw hon hk]
  split
  · rw [ikS_hi _ _ _ (by omega) hz.2.1.2]
  · rw [ikS_hi _ _ _ (by omega) hz.2.1.2]
theorem dnT_oOK {s : Int → Int} {n o : Nat} (ho : oOK s n) (hon : o < n) : oOK (dnT s n o) (n - 1) := by
  intro k hk
  rw [dnT_ord ho hon k hk 0 (by decide) (by decide), dnT_ord ho hon k hk 1 (by decide) (by decide), dnT_ord ho hon k hk 2 (by decide) (by decide), dnT_ord ho hon k hk 3 (by decide) (by decide)]
  by_cases h : o ≤ k
  · rw [if_pos h, if_pos h, if_pos h, if_pos h]
    exact ho (k + 1) (by omega)
  · rw [if_neg h, if_neg h, if_neg h, if_neg h]
    exact ho k (by omega)
theorem ikS_vOK {s : Int → Int} (hv : vOK s) (c : Int) {v : Int} (h0 : 0 ≤ v) (h1 : v ≤ 9999) : vOK (ikS s c v) := by
  intro d hd0 hd7
  unfold ikS
  rw [fset_ne _ _ (by omega), fset_ne _ _ (by omega)]
  by_cases h : d = c
  · rw [h, fset_at]; omega
  · rw [fset_ne _ _ (by omega)]; exact hv d hd0 hd7
theorem dnI_res {s : Int → Int} {n k : Nat} (ho : oOK s n) (hv : vOK s) (hk : k < n) : 0 ≤ res (s (111 + 7 * (k : Int) + 0)) (s (28 + 5 * (s (111 + 7 * (k : Int) + 2)) + 1)) (s (28 + 5 * (s (111 + 7 * (k : Int) + 3)) + 1)) ∧ res (s (111 + 7 * (k : Int) + 0)) (s (28 + 5 * (s (111 + 7 * (k : Int) + 2)) + 1)) (s (28 + 5 * (s (111 + 7 * (k : Int) + 3)) + 1)) ≤ 9999 := by
  have hz := ho k hk
  exact res_rng (hv _ hz.2.2.1.1 hz.2.2.1.2).1 (hv _ hz.2.2.2.1 hz.2.2.2.2).1
theorem dnT_vOK {s : Int → Int} {n k : Nat} (ho : oOK s n) (hv : vOK s) (hk : k < n) : vOK (dnT s n k) := by
  have hr := dnI_res ho hv hk
  have h1 : vOK (dnI s k) := ikS_vOK hv _ hr.1 hr.2
  intro d hd0 hd7
  unfold dnT
  rw [fset_ne _ _ (by omega), drS_lo _ _ _ (by omega) (by omega)]
  exact h1 d hd0 hd7
/-- what the pass leaves as it was, and what it keeps -/
theorem dnS_inv (f : Nat) : ∀ (s : Int → Int) (n k : Nat), n - k = f → k ≤ n → oOK s n → vOK s → s 3 = n → (∀ i : Int, i < 28 → i ≠ 3 → i ≠ 4 → (dnS f s n k).1 i = s i) ∧ (∀ i : Int, 63 ≤ i → i < 111 → (dnS f s n k).1 i = s i) ∧ oOK (dnS f s n k).1 (dnS f s n k).2 ∧ vOK (dnS f s n k).1 ∧ (dnS f s n k).1 3 = ((dnS f s n k).2 : Nat) ∧ (dnS f s n k).2 ≤ n ∧ (dnS f s n k).1 4 = s 4 + ((n : Int) - ((dnS f s n k).2 : Nat)) := by
  induction f with
  | zero => intro s n k h1 h2 ho hv h3; exact ⟨fun _ _ _ _ => rfl, fun _ _ _ => rfl, ho, hv, h3, Nat.le_refl _, by show s 4 = s 4 + ((n : Int) - (n : Int)); omega⟩
  | succ f ih =>
    intro s n k h1 h2 ho hv h3
    unfold dnS
    split
    · obtain ⟨a1, a2, a3, a4, a5, a6, a7⟩ := ih (dnT s n k) (n - 1) k (by omega) (by omega) (dnT_oOK ho (by omega)) (dnT_vOK ho hv (by omega)) (dnT_3 _ _ _ (by omega))
      refine ⟨fun i q1 q2 q3 => by rw [a1 i q1 q2 q3, dnT_lo ho (by omega) q1 q2 q3], fun i q1 q2 => by rw [a2 i q1 q2, dnT_mk ho (by omega) q1 q2], a3, a4, a5, by omega, ?_⟩
      rw [a7, dnT_4]
      omega
    · exact ih s n (k + 1) (by omega) (by omega) ho hv h3
set_option maxRecDepth 20000 in
set_option maxHeartbeats 4000000 in
theorem Fn_X6_dones (k : Nat) (I : mIt) (P : mPt) (hM : isMd P) (n : Nat) (hn : I 156 3 = n) (hn6 : n ≤ 6) (m : Nat) (hm : I 156 2 = m) (hm3 : m ≤ 3) (nc : Nat) (hc : I 156 0 = nc) (hc7 : nc ≤ 7) (hO : oOK (I 156) n) (hV : vOK (I 156)) (hs4 : 0 ≤ I 156 4 ∧ I 156 4 ≤ 2000000000) : WP (k + 3) mX6_dones none (0, 0) (Rt none (lay0, arS I 156 (frM (dnS n (I 156) n 0).1 (dnS n (I 156) n 0).2 m nc), P)) 0 [(0, .inr (some 155))] [] (lay0, I, P) := by
  refine r_iconst (d := mX6_dones) (pc := 0) (n := 0) dX6_dones_0 ?_
  refine r_istore_n (d := mX6_dones) (pc := 1) (i := 1) (lv' := [(0, .inr (some 155)), (1, .inl 0)]) dX6_dones_1 rfl (by decide) rfl rfl ?_
  have L2 : ∀ f : Nat, ∀ (t : Int → Int) (q z : Nat), q - z = f → z ≤ q → q ≤ 6 → t 3 = (q : Int) → oOK t q → vOK t → t 0 = I 156 0 → t 2 = I 156 2 → (0 ≤ t 4 ∧ t 4 ≤ 2000000006 - (q : Int)) → dnS n (I 156) n 0 = dnS f t q z → WP (k + 3) mX6_dones none (0, 0) (Rt none (lay0, arS I 156 (frM (dnS n (I 156) n 0).1 (dnS n (I 156) n 0).2 m nc), P)) 2 [(0, .inr (some 155)), (1, .inl (z : Int))] [] (lay0, arS I 156 t, P) := by
    refine loopD _ (fun f ih2 t q z hf hzq hq6 h3 hO hV h0 h2 h4 hd => ?_)
    refine r_iload_n (d := mX6_dones) (pc := 2) (i := 1) (v := (z : Int)) dX6_dones_2 rfl rfl ?_
    refine r_aload_n (d := mX6_dones) (pc := 3) (i := 0) (v := 155) dX6_dones_3 rfl rfl ?_
    refine r_getRs (d := mX6_dones) (pc := 4) (a := 155) (kd := 6) (j := 0) (x := 156) dX6_dones_4 flRX6_7 ly155 (by decide) (by decide) rfl hM.1 ?_
    refine r_iconst (d := mX6_dones) (pc := 7) (n := 3) dX6_dones_7 ?_
    refine r_ialds (d := mX6_dones) (pc := 8) (a := 156) (x := (t 3)) dX6_dones_8 ly156 (by decide) (by decide) (rfl) ?_
    refine r_icmp_ge (d := mX6_dones) (pc := 9) (tgt := 137) dX6_dones_9 (by decide) (fun h9 => ?_) (fun h9 => ?_)
    · refine r_aload_n (d := mX6_dones) (pc := 137) (i := 0) (v := 155) dX6_dones_137 rfl rfl ?_
      refine r_cV0 (d := mX6_dones) (pc := 138) (dj := mX6_frees) (a := 155) (kd := 6) dX6_dones_138 mlRX6_68 inX6_frees selX6_frees rfl ly155 (by decide) okX6_frees (by decide) rfl (Nat.le_of_ble_eq_true rfl) (by decide) (by decide) (Fn_X6_frees k (arS I 156 t) P hM q h3 hq6 m (h2.trans hm) hm3 nc (h0.trans hc) hc7) ?_
      refine wpE (lv' := [(0, .inr (some 155)), (1, .inl (z : Int))]) (st' := []) (M' := (lay0, arS I 156 (frM t q m nc), P)) rfl rfl (memE (arS_arS _ _ _ _)) ?_
      exact r_ret (d := mX6_dones) (pc := 141) dX6_dones_141 rfl (rtV (by refine memE ?_; rw [hd, show f = 0 by omega]; rfl)) (by decide) (by decide)
    · refine r_aload_n (d := mX6_dones) (pc := 12) (i := 0) (v := 155) dX6_dones_12 rfl rfl ?_
      refine r_getRs (d := mX6_dones) (pc := 13) (a := 155) (kd := 6) (j := 0) (x := 156) dX6_dones_13 flRX6_7 ly155 (by decide) (by decide) rfl hM.1 ?_
      refine r_iload_n (d := mX6_dones) (pc := 16) (i := 1) (v := (z : Int)) dX6_dones_16 rfl rfl ?_
      refine r_iconst (d := mX6_dones) (pc := 17) (n := 4) dX6_dones_17 ?_
      refine r_cS2 (d := mX6_dones) (pc := 18) (dj := mX6_ofOrder) dX6_dones_18 mlRX6_47 staX6_ofOrder okX6_ofOrder (by decide) rfl (Nat.le_of_ble_eq_true rfl) (by decide) (by decide) (Fn_X6_ofOrder (k + 2) (arS I 156 t) P (z : Int) 4 (by omega) (by omega) (by omega) (by omega)) ?_
      refine r_ialds (d := mX6_dones) (pc := 21) (a := 156) (x := (t (111 + 7 * (z : Int) + 4))) dX6_dones_21 ly156 (by omega) (by omega) (rfl) ?_
      refine r_if_lt (d := mX6_dones) (pc := 22) (tgt := 131) dX6_dones_22 (by decide) (fun h22 => ?_) (fun h22 => ?_)
      · refine r_iinc (d := mX6_dones) (pc := 131) (i := 1) (v := (z : Int)) (y := ((z + 1 : Nat) : Int)) (lv' := [(0, .inr (some 155)), (1, .inl ((z + 1 : Nat) : Int))]) dX6_dones_131 rfl (by decide) rfl (by omega) rfl ?_
        refine r_goto (d := mX6_dones) (pc := 134) (tgt := 2) dX6_dones_134 (by decide) ?_
        exact wpE (by simp) rfl (by rfl) (ih2 (f - 1) (by omega) t q (z + 1) (by omega) (by omega) hq6 h3 hO hV h0 h2 h4 (by rw [hd]; conv => lhs; rw [show f = (f - 1) + 1 by omega, dnS, if_neg (by omega)]))
      · refine r_aload_n (d := mX6_dones) (pc := 25) (i := 0) (v := 155) dX6_dones_25 rfl rfl ?_
        refine r_getRs (d := mX6_dones) (pc := 26) (a := 155) (kd := 6) (j := 0) (x := 156) dX6_dones_26 flRX6_7 ly155 (by decide) (by decide) rfl hM.1 ?_
        refine r_iload_n (d := mX6_dones) (pc := 29) (i := 1) (v := (z : Int)) dX6_dones_29 rfl rfl ?_
        refine r_iconst (d := mX6_dones) (pc := 30) (n := 4) dX6_dones_30 ?_
        refine r_cS2 (d := mX6_dones) (pc := 31) (dj := mX6_ofOrder) dX6_dones_31 mlRX6_47 staX6_ofOrder okX6_ofOrder (by decide) rfl (Nat.le_of_ble_eq_true rfl) (by decide) (by decide) (Fn_X6_ofOrder (k + 2) (arS I 156 t) P (z : Int) 4 (by omega) (by omega) (by omega) (by omega)) ?_
        refine r_ialds (d := mX6_dones) (pc := 34) (a := 156) (x := (t (111 + 7 * (z : Int) + 4))) dX6_dones_34 ly156 (by omega) (by omega) (rfl) ?_
        refine r_aload_n (d := mX6_dones) (pc := 35) (i := 0) (v := 155) dX6_dones_35 rfl rfl ?_
        refine r_getRs (d := mX6_dones) (pc := 36) (a := 155) (kd := 6) (j := 0) (x := 156) dX6_dones_36 flRX6_7 ly155 (by decide) (by decide) rfl hM.1 ?_
        refine r_iconst (d := mX6_dones) (pc := 39) (n := 1) dX6_dones_39 ?_
        refine r_ialds (d := mX6_dones) (pc := 40) (a := 156) (x := (t 1)) dX6_dones_40 ly156 (by decide) (by decide) (rfl) ?_
        refine r_icmp_gt (d := mX6_dones) (pc := 41) (tgt := 131) dX6_dones_41 (by decide) (fun h41 => ?_) (fun h41 => ?_)
        · refine r_iinc (d := mX6_dones) (pc := 131) (i := 1) (v := (z : Int)) (y := ((z + 1 : Nat) : Int)) (lv' := [(0, .inr (some 155)), (1, .inl ((z + 1 : Nat) : Int))]) dX6_dones_131 rfl (by decide) rfl (by omega) rfl ?_
          refine r_goto (d := mX6_dones) (pc := 134) (tgt := 2) dX6_dones_134 (by decide) ?_
          exact wpE (by simp) rfl (by rfl) (ih2 (f - 1) (by omega) t q (z + 1) (by omega) (by omega) hq6 h3 hO hV h0 h2 h4 (by rw [hd]; conv => lhs; rw [show f = (f - 1) + 1 by omega, dnS, if_neg (by omega)]))
        · have hz := hO z (by omega)
          have hv1 := hV _ hz.2.2.1.1 hz.2.2.1.2
          have hv2 := hV _ hz.2.2.2.1 hz.2.2.2.2
          refine r_aload_n (d := mX6_dones) (pc := 44) (i := 0) (v := 155) dX6_dones_44 rfl rfl ?_
          refine r_getRs (d := mX6_dones) (pc := 45) (a := 155) (kd := 6) (j := 0) (x := 156) dX6_dones_45 flRX6_7 ly155 (by decide) (by decide) rfl hM.1 ?_
          refine r_aload_n (d := mX6_dones) (pc := 48) (i := 0) (v := 155) dX6_dones_48 rfl rfl ?_
          refine r_getRs (d := mX6_dones) (pc := 49) (a := 155) (kd := 6) (j := 0) (x := 156) dX6_dones_49 flRX6_7 ly155 (by decide) (by decide) rfl hM.1 ?_
          refine r_iload_n (d := mX6_dones) (pc := 52) (i := 1) (v := (z : Int)) dX6_dones_52 rfl rfl ?_
          refine r_iconst (d := mX6_dones) (pc := 53) (n := 2) dX6_dones_53 ?_
          refine r_cS2 (d := mX6_dones) (pc := 54) (dj := mX6_ofOrder) dX6_dones_54 mlRX6_47 staX6_ofOrder okX6_ofOrder (by decide) rfl (Nat.le_of_ble_eq_true rfl) (by decide) (by decide) (Fn_X6_ofOrder (k + 2) (arS I 156 t) P (z : Int) 2 (by omega) (by omega) (by omega) (by omega)) ?_
          refine r_ialds (d := mX6_dones) (pc := 57) (a := 156) (x := (t (111 + 7 * (z : Int) + 2))) dX6_dones_57 ly156 (by omega) (by omega) (rfl) ?_
          refine r_iconst (d := mX6_dones) (pc := 58) (n := 1) dX6_dones_58 ?_
          refine r_cS2 (d := mX6_dones) (pc := 59) (dj := mX6_at) dX6_dones_59 mlRX6_65 staX6_at okX6_at (by decide) rfl (Nat.le_of_ble_eq_true rfl) (by decide) (by decide) (Fn_X6_at (k + 2) (arS I 156 t) P (t (111 + 7 * (z : Int) + 2)) 1 (by omega) (by omega) (by omega) (by omega)) ?_
          refine r_ialds (d := mX6_dones) (pc := 62) (a := 156) (x := (t (28 + 5 * (t (111 + 7 * (z : Int) + 2)) + 1))) dX6_dones_62 ly156 (by omega) (by omega) (rfl) ?_
          refine r_istore_n (d := mX6_dones) (pc := 63) (i := 2) (lv' := [(0, .inr (some 155)), (1, .inl (z : Int)), (2, .inl (t (28 + 5 * (t (111 + 7 * (z : Int) + 2)) + 1)))]) dX6_dones_63 rfl (by decide) rfl rfl ?_
          refine r_aload_n (d := mX6_dones) (pc := 64) (i := 0) (v := 155) dX6_dones_64 rfl rfl ?_
          refine r_getRs (d := mX6_dones) (pc := 65) (a := 155) (kd := 6) (j := 0) (x := 156) dX6_dones_65 flRX6_7 ly155 (by decide) (by decide) rfl hM.1 ?_
          refine r_aload_n (d := mX6_dones) (pc := 68) (i := 0) (v := 155) dX6_dones_68 rfl rfl ?_
          refine r_getRs (d := mX6_dones) (pc := 69) (a := 155) (kd := 6) (j := 0) (x := 156) dX6_dones_69 flRX6_7 ly155 (by decide) (by decide) rfl hM.1 ?_
          refine r_iload_n (d := mX6_dones) (pc := 72) (i := 1) (v := (z : Int)) dX6_dones_72 rfl rfl ?_
          refine r_iconst (d := mX6_dones) (pc := 73) (n := 3) dX6_dones_73 ?_
          refine r_cS2 (d := mX6_dones) (pc := 74) (dj := mX6_ofOrder) dX6_dones_74 mlRX6_47 staX6_ofOrder okX6_ofOrder (by decide) rfl (Nat.le_of_ble_eq_true rfl) (by decide) (by decide) (Fn_X6_ofOrder (k + 2) (arS I 156 t) P (z : Int) 3 (by omega) (by omega) (by omega) (by omega)) ?_
          refine r_ialds (d := mX6_dones) (pc := 77) (a := 156) (x := (t (111 + 7 * (z : Int) + 3))) dX6_dones_77 ly156 (by omega) (by omega) (rfl) ?_
          refine r_iconst (d := mX6_dones) (pc := 78) (n := 1) dX6_dones_78 ?_
          refine r_cS2 (d := mX6_dones) (pc := 79) (dj := mX6_at) dX6_dones_79 mlRX6_65 staX6_at okX6_at (by decide) rfl (Nat.le_of_ble_eq_true rfl) (by decide) (by decide) (Fn_X6_at (k + 2) (arS I 156 t) P (t (111 + 7 * (z : Int) + 3)) 1 (by omega) (by omega) (by omega) (by omega)) ?_
          refine r_ialds (d := mX6_dones) (pc := 82) (a := 156) (x := (t (28 + 5 * (t (111 + 7 * (z : Int) + 3)) + 1))) dX6_dones_82 ly156 (by omega) (by omega) (rfl) ?_
          refine r_istore_n (d := mX6_dones) (pc := 83) (i := 3) (lv' := [(0, .inr (some 155)), (1, .inl (z : Int)), (2, .inl (t (28 + 5 * (t (111 + 7 * (z : Int) + 2)) + 1))), (3, .inl (t (28 + 5 * (t (111 + 7 * (z : Int) + 3)) + 1)))]) dX6_dones_83 rfl (by decide) rfl rfl ?_
          refine r_aload_n (d := mX6_dones) (pc := 84) (i := 0) (v := 155) dX6_dones_84 rfl rfl ?_
          refine r_aload_n (d := mX6_dones) (pc := 85) (i := 0) (v := 155) dX6_dones_85 rfl rfl ?_
          refine r_getRs (d := mX6_dones) (pc := 86) (a := 155) (kd := 6) (j := 0) (x := 156) dX6_dones_86 flRX6_7 ly155 (by decide) (by decide) rfl hM.1 ?_
          refine r_iload_n (d := mX6_dones) (pc := 89) (i := 1) (v := (z : Int)) dX6_dones_89 rfl rfl ?_
          refine r_iconst (d := mX6_dones) (pc := 90) (n := 1) dX6_dones_90 ?_
          refine r_cS2 (d := mX6_dones) (pc := 91) (dj := mX6_ofOrder) dX6_dones_91 mlRX6_47 staX6_ofOrder okX6_ofOrder (by decide) rfl (Nat.le_of_ble_eq_true rfl) (by decide) (by decide) (Fn_X6_ofOrder (k + 2) (arS I 156 t) P (z : Int) 1 (by omega) (by omega) (by omega) (by omega)) ?_
          refine r_ialds (d := mX6_dones) (pc := 94) (a := 156) (x := (t (111 + 7 * (z : Int) + 1))) dX6_dones_94 ly156 (by omega) (by omega) (rfl) ?_
          refine r_aload_n (d := mX6_dones) (pc := 95) (i := 0) (v := 155) dX6_dones_95 rfl rfl ?_
          refine r_getRs (d := mX6_dones) (pc := 96) (a := 155) (kd := 6) (j := 0) (x := 156) dX6_dones_96 flRX6_7 ly155 (by decide) (by decide) rfl hM.1 ?_
          refine r_iload_n (d := mX6_dones) (pc := 99) (i := 1) (v := (z : Int)) dX6_dones_99 rfl rfl ?_
          refine r_iconst (d := mX6_dones) (pc := 100) (n := 0) dX6_dones_100 ?_
          refine r_cS2 (d := mX6_dones) (pc := 101) (dj := mX6_ofOrder) dX6_dones_101 mlRX6_47 staX6_ofOrder okX6_ofOrder (by decide) rfl (Nat.le_of_ble_eq_true rfl) (by decide) (by decide) (Fn_X6_ofOrder (k + 2) (arS I 156 t) P (z : Int) 0 (by omega) (by omega) (by omega) (by omega)) ?_
          refine r_ialds (d := mX6_dones) (pc := 104) (a := 156) (x := (t (111 + 7 * (z : Int) + 0))) dX6_dones_104 ly156 (by omega) (by omega) (rfl) ?_
          refine r_iload_n (d := mX6_dones) (pc := 105) (i := 2) (v := (t (28 + 5 * (t (111 + 7 * (z : Int) + 2)) + 1))) dX6_dones_105 rfl rfl ?_
          refine r_iload_n (d := mX6_dones) (pc := 106) (i := 3) (v := (t (28 + 5 * (t (111 + 7 * (z : Int) + 3)) + 1))) dX6_dones_106 rfl rfl ?_
          refine r_cS3 (d := mX6_dones) (pc := 107) (dj := mX6_result) dX6_dones_107 mlRX6_107 staX6_result okX6_result (by decide) rfl (Nat.le_of_ble_eq_true rfl) (by decide) (by decide) (Fn_X6_result (k + 2) (arS I 156 t) P (t (111 + 7 * (z : Int) + 0)) (t (28 + 5 * (t (111 + 7 * (z : Int) + 2)) + 1)) (t (28 + 5 * (t (111 + 7 * (z : Int) + 3)) + 1)) (by omega) (by omega) (by omega) (by omega) (by omega)) ?_
          refine r_cV2 (d := mX6_dones) (pc := 110) (dj := mX6_isKnown) (a := 155) (kd := 6) dX6_dones_110 mlRX6_95 inX6_isKnown selX6_isKnown rfl ly155 (by decide) okX6_isKnown (by decide) rfl (Nat.le_of_ble_eq_true rfl) (by decide) (by decide) (Fn_X6_isKnown (k + 1) (arS I 156 t) P hM (t (111 + 7 * (z : Int) + 1)) (res (t (111 + 7 * (z : Int) + 0)) (t (28 + 5 * (t (111 + 7 * (z : Int) + 2)) + 1)) (t (28 + 5 * (t (111 + 7 * (z : Int) + 3)) + 1))) (by omega) (by omega)) ?_
          refine wpE (lv' := [(0, .inr (some 155)), (1, .inl (z : Int)), (2, .inl (t (28 + 5 * (t (111 + 7 * (z : Int) + 2)) + 1))), (3, .inl (t (28 + 5 * (t (111 + 7 * (z : Int) + 3)) + 1)))]) (st' := []) (M' := (lay0, arS I 156 (ikS t (t (111 + 7 * (z : Int) + 1)) (res (t (111 + 7 * (z : Int) + 0)) (t (28 + 5 * (t (111 + 7 * (z : Int) + 2)) + 1)) (t (28 + 5 * (t (111 + 7 * (z : Int) + 3)) + 1)))), P)) rfl rfl (memE (arS_arS _ _ _ _)) ?_
          change WP _ _ _ _ _ _ _ [] (lay0, arS I 156 (dnI t z), P)
          refine r_aload_n (d := mX6_dones) (pc := 113) (i := 0) (v := 155) dX6_dones_113 rfl rfl ?_
          refine r_iload_n (d := mX6_dones) (pc := 114) (i := 1) (v := (z : Int)) dX6_dones_114 rfl rfl ?_
          refine r_cV1 (d := mX6_dones) (pc := 115) (dj := mX6_drops) (a := 155) (kd := 6) dX6_dones_115 mlRX6_110 inX6_drops selX6_drops rfl ly155 (by decide) okX6_drops (by decide) rfl (Nat.le_of_ble_eq_true rfl) (by decide) (by decide) (Fn_X6_drops (k + 1) (arS I 156 (dnI t z)) P hM q z (by show (dnI t z) 3 = _; rw [dnI, ikS_lo2 _ _ _ (by omega) (by omega)]; exact h3) hq6 (by omega)) ?_
          refine wpE (lv' := [(0, .inr (some 155)), (1, .inl (z : Int)), (2, .inl (t (28 + 5 * (t (111 + 7 * (z : Int) + 2)) + 1))), (3, .inl (t (28 + 5 * (t (111 + 7 * (z : Int) + 3)) + 1)))]) (st' := []) (M' := (lay0, arS I 156 (drS (dnI t z) q z), P)) rfl rfl (memE (arS_arS _ _ _ _)) ?_
          refine r_aload_n (d := mX6_dones) (pc := 118) (i := 0) (v := 155) dX6_dones_118 rfl rfl ?_
          refine r_getRs (d := mX6_dones) (pc := 119) (a := 155) (kd := 6) (j := 0) (x := 156) dX6_dones_119 flRX6_7 ly155 (by decide) (by decide) rfl hM.1 ?_
          refine r_iconst (d := mX6_dones) (pc := 122) (n := 4) dX6_dones_122 ?_
          refine r_dup2 (d := mX6_dones) (pc := 123) dX6_dones_123 ?_
          refine r_ialds (d := mX6_dones) (pc := 124) (a := 156) (x := (t 4)) dX6_dones_124 ly156 (by decide) (by decide) (by show (drS (dnI t z) q z) 4 = _; rw [drS_lo _ _ _ (by omega) (by omega), dnI, ikS_lo2 _ _ _ (by omega) (by omega)]) ?_
          refine r_iconst (d := mX6_dones) (pc := 125) (n := 1) dX6_dones_125 ?_
          refine r_iadd (d := mX6_dones) (pc := 126) dX6_dones_126 ?_
          refine r_iasts (d := mX6_dones) (pc := 127) (a := 156) (lay0, arS I 156 (fset (drS (dnI t z) q z) 4 ((t 4) + 1)), P) dX6_dones_127 ly156 (by decide) (by decide) (memE (arS_up _ _ _ _ _)) ?_
          refine r_goto (d := mX6_dones) (pc := 128) (tgt := 2) dX6_dones_128 (by decide) ?_
          refine WP.pick (lv' := [(0, .inr (some 155)), (1, .inl (z : Int))]) [0, 1] rfl ?_
          exact wpE (by simp) rfl (by rfl) (ih2 (f - 1) (by omega) (dnT t q z) (q - 1) z (by omega) (by omega) (by omega) (dnT_3 _ _ _ (by omega)) (dnT_oOK hO (by omega)) (dnT_vOK hO hV (by omega)) (by rw [dnT_lo hO (by omega) (by decide) (by decide) (by decide)]; exact h0) (by rw [dnT_lo hO (by omega) (by decide) (by decide) (by decide)]; exact h2) (by rw [dnT_4]; omega) (by rw [hd, show f = (f - 1) + 1 by omega, dnS, if_pos (by omega)]; rfl))
  exact wpE (by simp) rfl (by refine memE ?_; exact (arS_self _ _).symm) (L2 n (I 156) n 0 (by omega) (by omega) hn6 hn hO hV rfl rfl (by omega) rfl)
