/-! ===== the model: one tick ===== -/
def tcS (s : Int → Int) : Nat → Int → Int
  | 0 => fset s 1 (s 1 + 1)
  | c + 1 => if tcS s c (28 + 5 * (c : Int) + 0) = 1 ∧ 0 ≤ tcS s c (28 + 5 * (c : Int) + 3) ∧ tcS s c (28 + 5 * (c : Int) + 3) ≤ tcS s c 1 then ikS (tcS s c) (c : Int) (tcS s c (28 + 5 * (c : Int) + 1)) else tcS s c
theorem tcS_lo (s : Int → Int) (c : Nat) {i : Int} (h : i < 28) (h1 : i ≠ 1) : tcS s c i = s i := by
  induction c with
  | zero => exact fset_ne _ _ h1
  | succ c ih =>
    unfold tcS
    split
    · rw [ikS_lo2 _ _ _ h (by omega), ih]
    · exact ih
theorem tcS_1 (s : Int → Int) (c : Nat) : tcS s c 1 = s 1 + 1 := by
  induction c with
  | zero => exact fset_at _ _ _
  | succ c ih =>
    unfold tcS
    split
    · rw [ikS_lo2 _ _ _ (by decide) (by omega), ih]
    · exact ih
theorem tcS_hi (s : Int → Int) (c : Nat) (hc : c ≤ 7) {i : Int} (h : 63 ≤ i) : tcS s c i = s i := by
  induction c with
  | zero => exact fset_ne _ _ (by omega)
  | succ c ih =>
    unfold tcS
    split
    · rw [ikS_hi _ _ _ h (by omega), ih (by omega)]
    · exact ih (by omega)
theorem tcS_vOK {s : Int → Int} (hv : vOK s) (c : Nat) (hc : c ≤ 7) : vOK (tcS s c) := by
  induction c with
  | zero =>
    intro d h0 h7
    show 0 ≤ fset s 1 (s 1 + 1) _ ∧ _
    refine ⟨?_, ?_⟩
    · rw [fset_ne _ _ (by omega)]; exact (hv d h0 h7).1
    · show fset s 1 (s 1 + 1) _ ≤ 9999
      rw [fset_ne _ _ (by omega)]; exact (hv d h0 h7).2
  | succ c ih =>
    have hi := ih (by omega)
    unfold tcS
    split
    · have h := hi c (by omega) (by omega)
      exact ikS_vOK hi _ h.1 h.2
    · exact hi
theorem oOK_congr {s t : Int → Int} {n : Nat} (h : oOK s n) (e : ∀ i : Int, 111 ≤ i → t i = s i) : oOK t n := by
  intro k hk
  rw [e _ (by omega), e _ (by omega), e _ (by omega), e _ (by omega)]
  exact h k hk
theorem frM_vOK {s : Int → Int} (hv : vOK s) (n m c : Nat) : vOK (frM s n m c) := by
  intro d h0 h7
  rw [frM_ne _ _ _ _ _ (fun k _ => by omega)]
  exact hv d h0 h7
def tdN (s : Int → Int) (n nc : Nat) : Nat := (dnS n (tcS s nc) n 0).2
def tdS (s : Int → Int) (n m nc : Nat) : Int → Int := frM (dnS n (tcS s nc) n 0).1 (dnS n (tcS s nc) n 0).2 m nc
def bnC (s : Int → Int) (k : Nat) : Prop := s (111 + 7 * (k : Int) + 4) < 0 ∧ s (28 + 5 * (s (111 + 7 * (k : Int) + 2)) + 2) = 1 ∧ s (28 + 5 * (s (111 + 7 * (k : Int) + 3)) + 2) = 1
def bnT (s : Int → Int) (k : Nat) : Int → Int := fset s (111 + 7 * (k : Int) + 4) (s 1 + (if s (111 + 7 * (k : Int) + 0) = 2 then s (8 + 1) else s (8 + 0)))
def bnS : Nat → (Int → Int) → Nat → Nat → (Int → Int)
  | 0, s, _, _ => s
  | f + 1, s, k, b => if (b : Int) < s 11 then (if s (111 + 7 * (k : Int) + 4) < 0 ∧ s (28 + 5 * (s (111 + 7 * (k : Int) + 2)) + 2) = 1 ∧ s (28 + 5 * (s (111 + 7 * (k : Int) + 3)) + 2) = 1 then bnS f (bnT s k) (k + 1) (b + 1) else bnS f s (k + 1) b) else s
def tsS (s : Int → Int) (n m nc : Nat) : Int → Int := bnS (tdN s n nc) (tdS s n m nc) 0 0
theorem bnT_lo (s : Int → Int) (k : Nat) {i : Int} (h : i < 111) : bnT s k i = s i := fset_ne _ _ (by omega)
theorem bnT_oOK {s : Int → Int} {n : Nat} (ho : oOK s n) (k : Nat) : oOK (bnT s k) n := by
  intro j hj
  unfold bnT
  rw [fset_ne _ _ (by omega), fset_ne _ _ (by omega), fset_ne _ _ (by omega), fset_ne _ _ (by omega)]
  exact ho j hj
theorem bnS_lo (f : Nat) : ∀ (s : Int → Int) (k b : Nat) {i : Int}, i < 111 → bnS f s k b i = s i := by
  induction f with
  | zero => intro s k b i h; rfl
  | succ f ih =>
    intro s k b i h
    unfold bnS
    split
    · split
      · rw [ih _ _ _ h, bnT_lo _ _ h]
      · exact ih _ _ _ h
    · rfl
theorem bnS_oOK (f : Nat) : ∀ (s : Int → Int) (k b n : Nat), oOK s n → oOK (bnS f s k b) n := by
  induction f with
  | zero => intro s k b n h; exact h
  | succ f ih =>
    intro s k b n h
    unfold bnS
    split
    · split
      · exact ih _ _ _ _ (bnT_oOK h _)
      · exact ih _ _ _ _ h
    · exact h
theorem tcS_in {s : Int → Int} {n nc : Nat} (ho : oOK s n) (hv : vOK s) (h3 : s 3 = n) (hc7 : nc ≤ 7) : oOK (tcS s nc) n ∧ vOK (tcS s nc) ∧ tcS s nc 3 = n := ⟨oOK_congr ho (fun i h => tcS_hi _ _ hc7 (by omega)), tcS_vOK hv _ hc7, (tcS_lo _ _ (by decide) (by decide)).trans h3⟩
/-- what dones leaves -/
theorem tdS_inv {s : Int → Int} {n m nc : Nat} (ho : oOK s n) (hv : vOK s) (h3 : s 3 = n) (hc7 : nc ≤ 7) : (∀ i : Int, i < 28 → i ≠ 1 → i ≠ 3 → i ≠ 4 → tdS s n m nc i = s i) ∧ (∀ i : Int, 63 ≤ i → i < 111 → tdS s n m nc i = s i) ∧ oOK (tdS s n m nc) (tdN s n nc) ∧ vOK (tdS s n m nc) ∧ tdS s n m nc 3 = ((tdN s n nc : Nat) : Int) ∧ tdN s n nc ≤ n ∧ tdS s n m nc 4 = s 4 + ((n : Int) - ((tdN s n nc : Nat) : Int)) ∧ tdS s n m nc 1 = s 1 + 1 := by
  have hi := tcS_in ho hv h3 hc7
  obtain ⟨a1, a2, a3, a4, a5, a6, a7⟩ := dnS_inv n (tcS s nc) n 0 (by omega) (by omega) hi.1 hi.2.1 hi.2.2
  unfold tdS tdN
  refine ⟨fun i q1 q2 q3 q4 => ?_, fun i q1 q2 => ?_, oOK_congr a3 (fun i q => frM_hi _ _ _ _ hc7 (by omega)), frM_vOK a4 _ _ _, ?_, a6, ?_, ?_⟩
  · rw [frM_lo _ _ _ _ q1, a1 i q1 q3 q4, tcS_lo _ _ q1 q2]
  · rw [frM_hi _ _ _ _ hc7 q1, a2 i q1 q2, tcS_hi _ _ hc7 q1]
  · rw [frM_lo _ _ _ _ (by decide), a5]
  · rw [frM_lo _ _ _ _ (by decide), a7, tcS_lo _ _ (by decide) (by decide)]
  · rw [frM_lo _ _ _ _ (by decide), a1 1 (by decide) (by decide) (by decide), tcS_1]
/-- what a tick leaves as it was, and keeps -/
theorem tsS_inv {s : Int → Int} {n m nc : Nat} (ho : oOK s n) (hv : vOK s) (h3 : s 3 = n) (hc7 : nc ≤ 7) : (∀ i : Int, i < 28 → i ≠ 1 → i ≠ 3 → i ≠ 4 → tsS s n m nc i = s i) ∧ (∀ i : Int, 63 ≤ i → i < 111 → tsS s n m nc i = s i) ∧ oOK (tsS s n m nc) (tdN s n nc) ∧ vOK (tsS s n m nc) ∧ tsS s n m nc 3 = ((tdN s n nc : Nat) : Int) ∧ tdN s n nc ≤ n ∧ tsS s n m nc 4 = s 4 + ((n : Int) - ((tdN s n nc : Nat) : Int)) ∧ tsS s n m nc 1 = s 1 + 1 := by
  obtain ⟨a1, a2, a3, a4, a5, a6, a7, a8⟩ := tdS_inv (m := m) ho hv h3 hc7
  unfold tsS
  refine ⟨fun i q1 q2 q3 q4 => ?_, fun i q1 q2 => ?_, bnS_oOK _ _ _ _ _ a3, ?_, ?_, a6, ?_, ?_⟩
  · rw [bnS_lo _ _ _ _ (by omega), a1 i q1 q2 q3 q4]
  · rw [bnS_lo _ _ _ _ q2, a2 i q1 q2]
  · intro d h0 h7
    rw [bnS_lo _ _ _ _ (by omega)]; exact a4 d h0 h7
  · rw [bnS_lo _ _ _ _ (by decide), a5]
  · rw [bnS_lo _ _ _ _ (by decide), a7]
  · rw [bnS_lo _ _ _ _ (by decide), a8]
def tkM (s : Int → Int) (n m nc : Nat) : Nat → (Int → Int) × Nat
  | 0 => (s, n)
  | j + 1 => (tsS (tkM s n m nc j).1 (tkM s n m nc j).2 m nc, tdN (tkM s n m nc j).1 (tkM s n m nc j).2 nc)
theorem tkM_inv {s : Int → Int} {n m nc : Nat} (ho : oOK s n) (hv : vOK s) (h3 : s 3 = n) (hc7 : nc ≤ 7) (j : Nat) : (∀ i : Int, i < 28 → i ≠ 1 → i ≠ 3 → i ≠ 4 → (tkM s n m nc j).1 i = s i) ∧ (∀ i : Int, 63 ≤ i → i < 111 → (tkM s n m nc j).1 i = s i) ∧ oOK (tkM s n m nc j).1 (tkM s n m nc j).2 ∧ vOK (tkM s n m nc j).1 ∧ (tkM s n m nc j).1 3 = (((tkM s n m nc j).2 : Nat) : Int) ∧ (tkM s n m nc j).2 ≤ n ∧ (tkM s n m nc j).1 4 = s 4 + ((n : Int) - (((tkM s n m nc j).2 : Nat) : Int)) ∧ (tkM s n m nc j).1 1 = s 1 + (j : Int) := by
  induction j with
  | zero => exact ⟨fun _ _ _ _ _ => rfl, fun _ _ _ => rfl, ho, hv, h3, Nat.le_refl _, by show s 4 = s 4 + ((n : Int) - (n : Int)); omega, by show s 1 = s 1 + ((0 : Nat) : Int); omega⟩
  | succ j ih =>
    obtain ⟨b1, b2, b3, b4, b5, b6, b7, b8⟩ := ih
    obtain ⟨a1, a2, a3, a4, a5, a6, a7, a8⟩ := tsS_inv (m := m) b3 b4 b5 hc7
    unfold tkM
    refine ⟨fun i q1 q2 q3 q4 => ?_, fun i q1 q2 => ?_, a3, a4, a5, by omega, ?_, ?_⟩
    · dsimp only; rw [a1 i q1 q2 q3 q4, b1 i q1 q2 q3 q4]
    · dsimp only; rw [a2 i q1 q2, b2 i q1 q2]
    · dsimp only; rw [a7, b7]; omega
    · dsimp only; rw [a8, b8]; omega
set_option maxRecDepth 20000 in
set_option maxHeartbeats 4000000 in
theorem Fn_X6_ticks (k : Nat) (I : mIt) (P : mPt) (hM : isMd P) (n : Nat) (hn : I 156 3 = n) (hn6 : n ≤ 6) (m : Nat) (hm : I 156 2 = m) (hm3 : m ≤ 3) (nc : Nat) (hc : I 156 0 = nc) (hc7 : nc ≤ 7) (hO : oOK (I 156) n) (hV : vOK (I 156)) (hs4 : 0 ≤ I 156 4 ∧ I 156 4 ≤ 2000000000) (hs1 : 0 ≤ I 156 1 ∧ I 156 1 ≤ 60000) (hs8 : 0 ≤ I 156 8 ∧ I 156 8 ≤ 99) (hs9 : 0 ≤ I 156 9 ∧ I 156 9 ≤ 99) : WP (k + 4) mX6_ticks none (0, 0) (Rt none (lay0, arS I 156 (tsS (I 156) n m nc), P)) 0 [(0, .inr (some 155))] [] (lay0, I, P) := by
  refine r_aload_n (d := mX6_ticks) (pc := 0) (i := 0) (v := 155) dX6_ticks_0 rfl rfl ?_
  refine r_getRs (d := mX6_ticks) (pc := 1) (a := 155) (kd := 6) (j := 0) (x := 156) dX6_ticks_1 flRX6_7 ly155 (by decide) (by decide) rfl hM.1 ?_
  refine r_iconst (d := mX6_ticks) (pc := 4) (n := 1) dX6_ticks_4 ?_
  refine r_dup2 (d := mX6_ticks) (pc := 5) dX6_ticks_5 ?_
  refine r_ialds (d := mX6_ticks) (pc := 6) (a := 156) (x := (I 156 1)) dX6_ticks_6 ly156 (by decide) (by decide) (rfl) ?_
  refine r_iconst (d := mX6_ticks) (pc := 7) (n := 1) dX6_ticks_7 ?_
  refine r_iadd (d := mX6_ticks) (pc := 8) dX6_ticks_8 ?_
  refine r_iasts (d := mX6_ticks) (pc := 9) (a := 156) (lay0, arS I 156 (fset (I 156) 1 ((I 156 1) + 1)), P) dX6_ticks_9 ly156 (by decide) (by decide) rfl ?_
  refine r_iconst (d := mX6_ticks) (pc := 10) (n := 0) dX6_ticks_10 ?_
  refine r_istore_n (d := mX6_ticks) (pc := 11) (i := 1) (lv' := [(0, .inr (some 155)), (1, .inl 0)]) dX6_ticks_11 rfl (by decide) rfl rfl ?_
  have L12 : ∀ c : Nat, c ≤ nc → WP (k + 4) mX6_ticks none (0, 0) (Rt none (lay0, arS I 156 (tsS (I 156) n m nc), P)) 12 [(0, .inr (some 155)), (1, .inl (c : Int))] [] (lay0, arS I 156 (tcS (I 156) c), P) := by
    refine loopN (nc) _ (fun c ih12 hj12 => ?_)
    refine r_iload_n (d := mX6_ticks) (pc := 12) (i := 1) (v := (c : Int)) dX6_ticks_12 rfl rfl ?_
    refine r_aload_n (d := mX6_ticks) (pc := 13) (i := 0) (v := 155) dX6_ticks_13 rfl rfl ?_
    refine r_getRs (d := mX6_ticks) (pc := 14) (a := 155) (kd := 6) (j := 0) (x := 156) dX6_ticks_14 flRX6_7 ly155 (by decide) (by decide) rfl hM.1 ?_
    refine r_iconst (d := mX6_ticks) (pc := 17) (n := 0) dX6_ticks_17 ?_
    refine r_ialds (d := mX6_ticks) (pc := 18) (a := 156) (x := (nc : Int)) dX6_ticks_18 ly156 (by decide) (by decide) (by show (tcS (I 156) c) 0 = _; rw [tcS_lo _ _ (by decide) (by decide)]; exact hc) ?_
    refine r_icmp_ge (d := mX6_ticks) (pc := 19) (tgt := 89) dX6_ticks_19 (by decide) (fun h19 => ?_) (fun h19 => ?_)
    · refine r_aload_n (d := mX6_ticks) (pc := 89) (i := 0) (v := 155) dX6_ticks_89 rfl rfl ?_
      rw [show c = nc by omega]
      have hi9 := tcS_in hO hV hn hc7
      refine r_cV0 (d := mX6_ticks) (pc := 90) (dj := mX6_dones) (a := 155) (kd := 6) dX6_ticks_90 mlRX6_113 inX6_dones selX6_dones rfl ly155 (by decide) okX6_dones (by decide) rfl (Nat.le_of_ble_eq_true rfl) (by decide) (by decide) (Fn_X6_dones k (arS I 156 (tcS (I 156) nc)) P hM n (hi9.2.2) hn6 m ((tcS_lo _ _ (by decide) (by decide)).trans hm) hm3 nc ((tcS_lo _ _ (by decide) (by decide)).trans hc) hc7 hi9.1 hi9.2.1 (by show 0 ≤ (tcS (I 156) nc) 4 ∧ (tcS (I 156) nc) 4 ≤ _; rw [tcS_lo _ _ (by decide) (by decide)]; exact hs4)) ?_
      refine wpE (lv' := [(0, .inr (some 155)), (1, .inl (nc : Int))]) (st' := []) (M' := (lay0, arS I 156 (tdS (I 156) n m nc), P)) rfl rfl (memE (arS_arS _ _ _ _)) ?_
      have hj := tdS_inv (m := m) hO hV hn hc7
      have hj6 := hj.2.2.2.2.2.1
      refine r_iconst (d := mX6_ticks) (pc := 93) (n := 0) dX6_ticks_93 ?_
      refine r_istore_n (d := mX6_ticks) (pc := 94) (i := 1) (lv' := [(0, .inr (some 155)), (1, .inl 0)]) dX6_ticks_94 rfl (by decide) rfl rfl ?_
      refine r_iconst (d := mX6_ticks) (pc := 95) (n := 0) dX6_ticks_95 ?_
      refine r_istore_n (d := mX6_ticks) (pc := 96) (i := 2) (lv' := [(0, .inr (some 155)), (1, .inl 0), (2, .inl 0)]) dX6_ticks_96 rfl (by decide) rfl rfl ?_
      have L97 : ∀ f : Nat, ∀ (t : Int → Int) (z b q : Nat), q - z = f → z ≤ q → q ≤ 6 → b ≤ z → t 3 = (q : Int) → oOK t q → t 1 = I 156 1 + 1 → t 8 = I 156 8 → t 9 = I 156 9 → tsS (I 156) n m nc = bnS f t z b → WP (k + 4) mX6_ticks none (0, 0) (Rt none (lay0, arS I 156 (tsS (I 156) n m nc), P)) 97 [(0, .inr (some 155)), (1, .inl (b : Int)), (2, .inl (z : Int))] [] (lay0, arS I 156 t, P) := by
        refine loopD _ (fun f ih97 t z b q hf hzq hq6 hbz h3 hO2 h1 h8 h9 hd => ?_)
        refine r_iload_n (d := mX6_ticks) (pc := 97) (i := 2) (v := (z : Int)) dX6_ticks_97 rfl rfl ?_
        refine r_aload_n (d := mX6_ticks) (pc := 98) (i := 0) (v := 155) dX6_ticks_98 rfl rfl ?_
        refine r_getRs (d := mX6_ticks) (pc := 99) (a := 155) (kd := 6) (j := 0) (x := 156) dX6_ticks_99 flRX6_7 ly155 (by decide) (by decide) rfl hM.1 ?_
        refine r_iconst (d := mX6_ticks) (pc := 102) (n := 3) dX6_ticks_102 ?_
        refine r_ialds (d := mX6_ticks) (pc := 103) (a := 156) (x := (q : Int)) dX6_ticks_103 ly156 (by decide) (by decide) (by show t 3 = _; rw [h3]) ?_
        refine r_icmp_ge (d := mX6_ticks) (pc := 104) (tgt := 240) dX6_ticks_104 (by decide) (fun h104 => ?_) (fun h104 => ?_)
        · exact r_ret (d := mX6_ticks) (pc := 240) dX6_ticks_240 rfl (rtV (by refine memE ?_; rw [hd, show f = 0 by omega]; rfl)) (by decide) (by decide)
        · refine r_iload_n (d := mX6_ticks) (pc := 107) (i := 1) (v := (b : Int)) dX6_ticks_107 rfl rfl ?_
          refine r_aload_n (d := mX6_ticks) (pc := 108) (i := 0) (v := 155) dX6_ticks_108 rfl rfl ?_
          refine r_getRs (d := mX6_ticks) (pc := 109) (a := 155) (kd := 6) (j := 0) (x := 156) dX6_ticks_109 flRX6_7 ly155 (by decide) (by decide) rfl hM.1 ?_
          refine r_bipush (d := mX6_ticks) (pc := 112) (n := 11) dX6_ticks_112 ?_
          refine r_ialds (d := mX6_ticks) (pc := 114) (a := 156) (x := (t 11)) dX6_ticks_114 ly156 (by decide) (by decide) (rfl) ?_
          refine r_icmp_ge (d := mX6_ticks) (pc := 115) (tgt := 240) dX6_ticks_115 (by decide) (fun h115 => ?_) (fun h115 => ?_)
          · exact r_ret (d := mX6_ticks) (pc := 240) dX6_ticks_240 rfl (rtV (by refine memE ?_; rw [hd, show f = (f - 1) + 1 by omega, bnS, if_neg (by omega)])) (by decide) (by decide)
          · have hz := hO2 z (by omega)
            have h8q : t (8 + 0) = I 156 8 := h8
            have h9q : t (8 + 1) = I 156 9 := h9
            refine r_aload_n (d := mX6_ticks) (pc := 118) (i := 0) (v := 155) dX6_ticks_118 rfl rfl ?_
            refine r_getRs (d := mX6_ticks) (pc := 119) (a := 155) (kd := 6) (j := 0) (x := 156) dX6_ticks_119 flRX6_7 ly155 (by decide) (by decide) rfl hM.1 ?_
            refine r_iload_n (d := mX6_ticks) (pc := 122) (i := 2) (v := (z : Int)) dX6_ticks_122 rfl rfl ?_
            refine r_iconst (d := mX6_ticks) (pc := 123) (n := 4) dX6_ticks_123 ?_
            refine r_cS2 (d := mX6_ticks) (pc := 124) (dj := mX6_ofOrder) dX6_ticks_124 mlRX6_47 staX6_ofOrder okX6_ofOrder (by decide) rfl (Nat.le_of_ble_eq_true rfl) (by decide) (by decide) (Fn_X6_ofOrder (k + 3) (arS I 156 t) P (z : Int) 4 (by omega) (by omega) (by omega) (by omega)) ?_
            refine r_ialds (d := mX6_ticks) (pc := 127) (a := 156) (x := (t (111 + 7 * (z : Int) + 4))) dX6_ticks_127 ly156 (by omega) (by omega) (rfl) ?_
            refine r_if_ge (d := mX6_ticks) (pc := 128) (tgt := 181) dX6_ticks_128 (by decide) (fun h128 => ?_) (fun h128 => ?_)
            · refine r_iconst (d := mX6_ticks) (pc := 181) (n := 0) dX6_ticks_181 ?_
              refine r_istore_n (d := mX6_ticks) (pc := 182) (i := 3) (lv' := [(0, .inr (some 155)), (1, .inl (b : Int)), (2, .inl (z : Int)), (3, .inl 0)]) dX6_ticks_182 rfl (by decide) rfl rfl ?_
              refine r_iload_n (d := mX6_ticks) (pc := 183) (i := 3) (v := 0) dX6_ticks_183 rfl rfl ?_
              refine r_if_eq (d := mX6_ticks) (pc := 184) (tgt := 234) dX6_ticks_184 (by decide) (fun _ => ?_) (fun q => absurd q (by decide))
              refine r_iinc (d := mX6_ticks) (pc := 234) (i := 2) (v := (z : Int)) (y := ((z + 1 : Nat) : Int)) (lv' := [(0, .inr (some 155)), (1, .inl (b : Int)), (2, .inl ((z + 1 : Nat) : Int)), (3, .inl 0)]) dX6_ticks_234 rfl (by decide) rfl (by omega) rfl ?_
              refine r_goto (d := mX6_ticks) (pc := 237) (tgt := 97) dX6_ticks_237 (by decide) ?_
              refine WP.pick (lv' := [(0, .inr (some 155)), (1, .inl (b : Int)), (2, .inl ((z + 1 : Nat) : Int))]) [0, 1, 2] rfl ?_
              exact wpE (by simp) rfl (by rfl) (ih97 (f - 1) (by omega) t (z + 1) b q (by omega) (by omega) hq6 (by omega) h3 hO2 h1 h8 h9 (by rw [hd]; conv => lhs; rw [show f = (f - 1) + 1 by omega, bnS, if_pos (by omega), if_neg (by omega)]))
            · refine r_aload_n (d := mX6_ticks) (pc := 131) (i := 0) (v := 155) dX6_ticks_131 rfl rfl ?_
              refine r_getRs (d := mX6_ticks) (pc := 132) (a := 155) (kd := 6) (j := 0) (x := 156) dX6_ticks_132 flRX6_7 ly155 (by decide) (by decide) rfl hM.1 ?_
              refine r_aload_n (d := mX6_ticks) (pc := 135) (i := 0) (v := 155) dX6_ticks_135 rfl rfl ?_
              refine r_getRs (d := mX6_ticks) (pc := 136) (a := 155) (kd := 6) (j := 0) (x := 156) dX6_ticks_136 flRX6_7 ly155 (by decide) (by decide) rfl hM.1 ?_
              refine r_iload_n (d := mX6_ticks) (pc := 139) (i := 2) (v := (z : Int)) dX6_ticks_139 rfl rfl ?_
              refine r_iconst (d := mX6_ticks) (pc := 140) (n := 2) dX6_ticks_140 ?_
              refine r_cS2 (d := mX6_ticks) (pc := 141) (dj := mX6_ofOrder) dX6_ticks_141 mlRX6_47 staX6_ofOrder okX6_ofOrder (by decide) rfl (Nat.le_of_ble_eq_true rfl) (by decide) (by decide) (Fn_X6_ofOrder (k + 3) (arS I 156 t) P (z : Int) 2 (by omega) (by omega) (by omega) (by omega)) ?_
              refine r_ialds (d := mX6_ticks) (pc := 144) (a := 156) (x := (t (111 + 7 * (z : Int) + 2))) dX6_ticks_144 ly156 (by omega) (by omega) (rfl) ?_
              refine r_iconst (d := mX6_ticks) (pc := 145) (n := 2) dX6_ticks_145 ?_
              refine r_cS2 (d := mX6_ticks) (pc := 146) (dj := mX6_at) dX6_ticks_146 mlRX6_65 staX6_at okX6_at (by decide) rfl (Nat.le_of_ble_eq_true rfl) (by decide) (by decide) (Fn_X6_at (k + 3) (arS I 156 t) P (t (111 + 7 * (z : Int) + 2)) 2 (by omega) (by omega) (by omega) (by omega)) ?_
              refine r_ialds (d := mX6_ticks) (pc := 149) (a := 156) (x := (t (28 + 5 * (t (111 + 7 * (z : Int) + 2)) + 2))) dX6_ticks_149 ly156 (by omega) (by omega) (rfl) ?_
              refine r_iconst (d := mX6_ticks) (pc := 150) (n := 1) dX6_ticks_150 ?_
              refine r_icmp_ne (d := mX6_ticks) (pc := 151) (tgt := 181) dX6_ticks_151 (by decide) (fun h151 => ?_) (fun h151 => ?_)
              · refine r_iconst (d := mX6_ticks) (pc := 181) (n := 0) dX6_ticks_181 ?_
                refine r_istore_n (d := mX6_ticks) (pc := 182) (i := 3) (lv' := [(0, .inr (some 155)), (1, .inl (b : Int)), (2, .inl (z : Int)), (3, .inl 0)]) dX6_ticks_182 rfl (by decide) rfl rfl ?_
                refine r_iload_n (d := mX6_ticks) (pc := 183) (i := 3) (v := 0) dX6_ticks_183 rfl rfl ?_
                refine r_if_eq (d := mX6_ticks) (pc := 184) (tgt := 234) dX6_ticks_184 (by decide) (fun _ => ?_) (fun q => absurd q (by decide))
                refine r_iinc (d := mX6_ticks) (pc := 234) (i := 2) (v := (z : Int)) (y := ((z + 1 : Nat) : Int)) (lv' := [(0, .inr (some 155)), (1, .inl (b : Int)), (2, .inl ((z + 1 : Nat) : Int)), (3, .inl 0)]) dX6_ticks_234 rfl (by decide) rfl (by omega) rfl ?_
                refine r_goto (d := mX6_ticks) (pc := 237) (tgt := 97) dX6_ticks_237 (by decide) ?_
                refine WP.pick (lv' := [(0, .inr (some 155)), (1, .inl (b : Int)), (2, .inl ((z + 1 : Nat) : Int))]) [0, 1, 2] rfl ?_
                exact wpE (by simp) rfl (by rfl) (ih97 (f - 1) (by omega) t (z + 1) b q (by omega) (by omega) hq6 (by omega) h3 hO2 h1 h8 h9 (by rw [hd]; conv => lhs; rw [show f = (f - 1) + 1 by omega, bnS, if_pos (by omega), if_neg (by omega)]))
              · refine r_aload_n (d := mX6_ticks) (pc := 154) (i := 0) (v := 155) dX6_ticks_154 rfl rfl ?_
                refine r_getRs (d := mX6_ticks) (pc := 155) (a := 155) (kd := 6) (j := 0) (x := 156) dX6_ticks_155 flRX6_7 ly155 (by decide) (by decide) rfl hM.1 ?_
                refine r_aload_n (d := mX6_ticks) (pc := 158) (i := 0) (v := 155) dX6_ticks_158 rfl rfl ?_
                refine r_getRs (d := mX6_ticks) (pc := 159) (a := 155) (kd := 6) (j := 0) (x := 156) dX6_ticks_159 flRX6_7 ly155 (by decide) (by decide) rfl hM.1 ?_
                refine r_iload_n (d := mX6_ticks) (pc := 162) (i := 2) (v := (z : Int)) dX6_ticks_162 rfl rfl ?_
                refine r_iconst (d := mX6_ticks) (pc := 163) (n := 3) dX6_ticks_163 ?_
                refine r_cS2 (d := mX6_ticks) (pc := 164) (dj := mX6_ofOrder) dX6_ticks_164 mlRX6_47 staX6_ofOrder okX6_ofOrder (by decide) rfl (Nat.le_of_ble_eq_true rfl) (by decide) (by decide) (Fn_X6_ofOrder (k + 3) (arS I 156 t) P (z : Int) 3 (by omega) (by omega) (by omega) (by omega)) ?_
                refine r_ialds (d := mX6_ticks) (pc := 167) (a := 156) (x := (t (111 + 7 * (z : Int) + 3))) dX6_ticks_167 ly156 (by omega) (by omega) (rfl) ?_
                refine r_iconst (d := mX6_ticks) (pc := 168) (n := 2) dX6_ticks_168 ?_
                refine r_cS2 (d := mX6_ticks) (pc := 169) (dj := mX6_at) dX6_ticks_169 mlRX6_65 staX6_at okX6_at (by decide) rfl (Nat.le_of_ble_eq_true rfl) (by decide) (by decide) (Fn_X6_at (k + 3) (arS I 156 t) P (t (111 + 7 * (z : Int) + 3)) 2 (by omega) (by omega) (by omega) (by omega)) ?_
                refine r_ialds (d := mX6_ticks) (pc := 172) (a := 156) (x := (t (28 + 5 * (t (111 + 7 * (z : Int) + 3)) + 2))) dX6_ticks_172 ly156 (by omega) (by omega) (rfl) ?_
                refine r_iconst (d := mX6_ticks) (pc := 173) (n := 1) dX6_ticks_173 ?_
                refine r_icmp_ne (d := mX6_ticks) (pc := 174) (tgt := 181) dX6_ticks_174 (by decide) (fun h174 => ?_) (fun h174 => ?_)
                · refine r_iconst (d := mX6_ticks) (pc := 181) (n := 0) dX6_ticks_181 ?_
                  refine r_istore_n (d := mX6_ticks) (pc := 182) (i := 3) (lv' := [(0, .inr (some 155)), (1, .inl (b : Int)), (2, .inl (z : Int)), (3, .inl 0)]) dX6_ticks_182 rfl (by decide) rfl rfl ?_
                  refine r_iload_n (d := mX6_ticks) (pc := 183) (i := 3) (v := 0) dX6_ticks_183 rfl rfl ?_
                  refine r_if_eq (d := mX6_ticks) (pc := 184) (tgt := 234) dX6_ticks_184 (by decide) (fun _ => ?_) (fun q => absurd q (by decide))
                  refine r_iinc (d := mX6_ticks) (pc := 234) (i := 2) (v := (z : Int)) (y := ((z + 1 : Nat) : Int)) (lv' := [(0, .inr (some 155)), (1, .inl (b : Int)), (2, .inl ((z + 1 : Nat) : Int)), (3, .inl 0)]) dX6_ticks_234 rfl (by decide) rfl (by omega) rfl ?_
                  refine r_goto (d := mX6_ticks) (pc := 237) (tgt := 97) dX6_ticks_237 (by decide) ?_
                  refine WP.pick (lv' := [(0, .inr (some 155)), (1, .inl (b : Int)), (2, .inl ((z + 1 : Nat) : Int))]) [0, 1, 2] rfl ?_
                  exact wpE (by simp) rfl (by rfl) (ih97 (f - 1) (by omega) t (z + 1) b q (by omega) (by omega) hq6 (by omega) h3 hO2 h1 h8 h9 (by rw [hd]; conv => lhs; rw [show f = (f - 1) + 1 by omega, bnS, if_pos (by omega), if_neg (by omega)]))
                · refine r_iconst (d := mX6_ticks) (pc := 177) (n := 1) dX6_ticks_177 ?_
                  refine r_goto (d := mX6_ticks) (pc := 178) (tgt := 182) dX6_ticks_178 (by decide) ?_
                  refine r_istore_n (d := mX6_ticks) (pc := 182) (i := 3) (lv' := [(0, .inr (some 155)), (1, .inl (b : Int)), (2, .inl (z : Int)), (3, .inl 1)]) dX6_ticks_182 rfl (by decide) rfl rfl ?_
                  refine r_iload_n (d := mX6_ticks) (pc := 183) (i := 3) (v := 1) dX6_ticks_183 rfl rfl ?_
                  refine r_if_eq (d := mX6_ticks) (pc := 184) (tgt := 234) dX6_ticks_184 (by decide) (fun q => absurd q (by decide)) (fun _ => ?_)
                  refine r_aload_n (d := mX6_ticks) (pc := 187) (i := 0) (v := 155) dX6_ticks_187 rfl rfl ?_
                  refine r_getRs (d := mX6_ticks) (pc := 188) (a := 155) (kd := 6) (j := 0) (x := 156) dX6_ticks_188 flRX6_7 ly155 (by decide) (by decide) rfl hM.1 ?_
                  refine r_iload_n (d := mX6_ticks) (pc := 191) (i := 2) (v := (z : Int)) dX6_ticks_191 rfl rfl ?_
                  refine r_iconst (d := mX6_ticks) (pc := 192) (n := 4) dX6_ticks_192 ?_
                  refine r_cS2 (d := mX6_ticks) (pc := 193) (dj := mX6_ofOrder) dX6_ticks_193 mlRX6_47 staX6_ofOrder okX6_ofOrder (by decide) rfl (Nat.le_of_ble_eq_true rfl) (by decide) (by decide) (Fn_X6_ofOrder (k + 3) (arS I 156 t) P (z : Int) 4 (by omega) (by omega) (by omega) (by omega)) ?_
                  refine r_aload_n (d := mX6_ticks) (pc := 196) (i := 0) (v := 155) dX6_ticks_196 rfl rfl ?_
                  refine r_getRs (d := mX6_ticks) (pc := 197) (a := 155) (kd := 6) (j := 0) (x := 156) dX6_ticks_197 flRX6_7 ly155 (by decide) (by decide) rfl hM.1 ?_
                  refine r_iconst (d := mX6_ticks) (pc := 200) (n := 1) dX6_ticks_200 ?_
                  refine r_ialds (d := mX6_ticks) (pc := 201) (a := 156) (x := ((I 156 1) + 1)) dX6_ticks_201 ly156 (by decide) (by decide) (by show t 1 = _; rw [h1]) ?_
                  refine r_aload_n (d := mX6_ticks) (pc := 202) (i := 0) (v := 155) dX6_ticks_202 rfl rfl ?_
                  refine r_getRs (d := mX6_ticks) (pc := 203) (a := 155) (kd := 6) (j := 0) (x := 156) dX6_ticks_203 flRX6_7 ly155 (by decide) (by decide) rfl hM.1 ?_
                  refine r_bipush (d := mX6_ticks) (pc := 206) (n := 8) dX6_ticks_206 ?_
                  refine r_aload_n (d := mX6_ticks) (pc := 208) (i := 0) (v := 155) dX6_ticks_208 rfl rfl ?_
                  refine r_getRs (d := mX6_ticks) (pc := 209) (a := 155) (kd := 6) (j := 0) (x := 156) dX6_ticks_209 flRX6_7 ly155 (by decide) (by decide) rfl hM.1 ?_
                  refine r_iload_n (d := mX6_ticks) (pc := 212) (i := 2) (v := (z : Int)) dX6_ticks_212 rfl rfl ?_
                  refine r_iconst (d := mX6_ticks) (pc := 213) (n := 0) dX6_ticks_213 ?_
                  refine r_cS2 (d := mX6_ticks) (pc := 214) (dj := mX6_ofOrder) dX6_ticks_214 mlRX6_47 staX6_ofOrder okX6_ofOrder (by decide) rfl (Nat.le_of_ble_eq_true rfl) (by decide) (by decide) (Fn_X6_ofOrder (k + 3) (arS I 156 t) P (z : Int) 0 (by omega) (by omega) (by omega) (by omega)) ?_
                  refine r_ialds (d := mX6_ticks) (pc := 217) (a := 156) (x := (t (111 + 7 * (z : Int) + 0))) dX6_ticks_217 ly156 (by omega) (by omega) (rfl) ?_
                  refine r_iconst (d := mX6_ticks) (pc := 218) (n := 2) dX6_ticks_218 ?_
                  refine r_icmp_ne (d := mX6_ticks) (pc := 219) (tgt := 226) dX6_ticks_219 (by decide) (fun h219 => ?_) (fun h219 => ?_)
                  · refine r_iconst (d := mX6_ticks) (pc := 226) (n := 0) dX6_ticks_226 ?_
                    refine r_iadd (d := mX6_ticks) (pc := 227) dX6_ticks_227 ?_
                    refine r_ialds (d := mX6_ticks) (pc := 228) (a := 156) (x := (t (8 + 0))) dX6_ticks_228 ly156 (by omega) (by omega) (rfl) ?_
                    refine r_iadd (d := mX6_ticks) (pc := 229) dX6_ticks_229 ?_
                    refine r_iasts (d := mX6_ticks) (pc := 230) (a := 156) (lay0, arS I 156 (fset t (111 + 7 * (z : Int) + 4) (((I 156 1) + 1) + (t (8 + 0)))), P) dX6_ticks_230 ly156 (by omega) (by omega) (memE (arS_up _ _ _ _ _)) ?_
                    refine r_iinc (d := mX6_ticks) (pc := 231) (i := 1) (v := (b : Int)) (y := ((b + 1 : Nat) : Int)) (lv' := [(0, .inr (some 155)), (1, .inl ((b + 1 : Nat) : Int)), (2, .inl (z : Int)), (3, .inl 1)]) dX6_ticks_231 rfl (by decide) rfl (by omega) rfl ?_
                    refine r_iinc (d := mX6_ticks) (pc := 234) (i := 2) (v := (z : Int)) (y := ((z + 1 : Nat) : Int)) (lv' := [(0, .inr (some 155)), (1, .inl ((b + 1 : Nat) : Int)), (2, .inl ((z + 1 : Nat) : Int)), (3, .inl 1)]) dX6_ticks_234 rfl (by decide) rfl (by omega) rfl ?_
                    refine r_goto (d := mX6_ticks) (pc := 237) (tgt := 97) dX6_ticks_237 (by decide) ?_
                    refine WP.pick (lv' := [(0, .inr (some 155)), (1, .inl ((b + 1 : Nat) : Int)), (2, .inl ((z + 1 : Nat) : Int))]) [0, 1, 2] rfl ?_
                    exact wpE (by simp) rfl (by refine memE ?_; rw [bnT, if_neg (by omega), h1]) (ih97 (f - 1) (by omega) (bnT t z) (z + 1) (b + 1) q (by omega) (by omega) hq6 (by omega) ((bnT_lo _ _ (by decide)).trans h3) (bnT_oOK hO2 _) ((bnT_lo _ _ (by decide)).trans h1) ((bnT_lo _ _ (by decide)).trans h8) ((bnT_lo _ _ (by decide)).trans h9) (by rw [hd]; conv => lhs; rw [show f = (f - 1) + 1 by omega, bnS, if_pos (by omega), if_pos (by omega)]))
                  · refine r_iconst (d := mX6_ticks) (pc := 222) (n := 1) dX6_ticks_222 ?_
                    refine r_goto (d := mX6_ticks) (pc := 223) (tgt := 227) dX6_ticks_223 (by decide) ?_
                    refine r_iadd (d := mX6_ticks) (pc := 227) dX6_ticks_227 ?_
                    refine r_ialds (d := mX6_ticks) (pc := 228) (a := 156) (x := (t (8 + 1))) dX6_ticks_228 ly156 (by omega) (by omega) (rfl) ?_
                    refine r_iadd (d := mX6_ticks) (pc := 229) dX6_ticks_229 ?_
                    refine r_iasts (d := mX6_ticks) (pc := 230) (a := 156) (lay0, arS I 156 (fset t (111 + 7 * (z : Int) + 4) (((I 156 1) + 1) + (t (8 + 1)))), P) dX6_ticks_230 ly156 (by omega) (by omega) (memE (arS_up _ _ _ _ _)) ?_
                    refine r_iinc (d := mX6_ticks) (pc := 231) (i := 1) (v := (b : Int)) (y := ((b + 1 : Nat) : Int)) (lv' := [(0, .inr (some 155)), (1, .inl ((b + 1 : Nat) : Int)), (2, .inl (z : Int)), (3, .inl 1)]) dX6_ticks_231 rfl (by decide) rfl (by omega) rfl ?_
                    refine r_iinc (d := mX6_ticks) (pc := 234) (i := 2) (v := (z : Int)) (y := ((z + 1 : Nat) : Int)) (lv' := [(0, .inr (some 155)), (1, .inl ((b + 1 : Nat) : Int)), (2, .inl ((z + 1 : Nat) : Int)), (3, .inl 1)]) dX6_ticks_234 rfl (by decide) rfl (by omega) rfl ?_
                    refine r_goto (d := mX6_ticks) (pc := 237) (tgt := 97) dX6_ticks_237 (by decide) ?_
                    refine WP.pick (lv' := [(0, .inr (some 155)), (1, .inl ((b + 1 : Nat) : Int)), (2, .inl ((z + 1 : Nat) : Int))]) [0, 1, 2] rfl ?_
                    exact wpE (by simp) rfl (by refine memE ?_; rw [bnT, if_pos (by omega), h1]) (ih97 (f - 1) (by omega) (bnT t z) (z + 1) (b + 1) q (by omega) (by omega) hq6 (by omega) ((bnT_lo _ _ (by decide)).trans h3) (bnT_oOK hO2 _) ((bnT_lo _ _ (by decide)).trans h1) ((bnT_lo _ _ (by decide)).trans h8) ((bnT_lo _ _ (by decide)).trans h9) (by rw [hd]; conv => lhs; rw [show f = (f - 1) + 1 by omega, bnS, if_pos (by omega), if_pos (by omega)]))
      exact wpE (by simp) rfl (by rfl) (L97 (tdN (I 156) n nc) (tdS (I 156) n m nc) 0 0 (tdN (I 156) n nc) (by omega) (by omega) (by omega) (by omega) hj.2.2.2.2.1 hj.2.2.1 hj.2.2.2.2.2.2.2 (hj.1 8 (by decide) (by decide) (by decide) (by decide)) (hj.1 9 (by decide) (by decide) (by decide) (by decide)) rfl)
    · refine r_aload_n (d := mX6_ticks) (pc := 22) (i := 0) (v := 155) dX6_ticks_22 rfl rfl ?_
      refine r_getRs (d := mX6_ticks) (pc := 23) (a := 155) (kd := 6) (j := 0) (x := 156) dX6_ticks_23 flRX6_7 ly155 (by decide) (by decide) rfl hM.1 ?_
      refine r_iload_n (d := mX6_ticks) (pc := 26) (i := 1) (v := (c : Int)) dX6_ticks_26 rfl rfl ?_
      refine r_iconst (d := mX6_ticks) (pc := 27) (n := 0) dX6_ticks_27 ?_
      refine r_cS2 (d := mX6_ticks) (pc := 28) (dj := mX6_at) dX6_ticks_28 mlRX6_65 staX6_at okX6_at (by decide) rfl (Nat.le_of_ble_eq_true rfl) (by decide) (by decide) (Fn_X6_at (k + 3) (arS I 156 (tcS (I 156) c)) P (c : Int) 0 (by omega) (by omega) (by omega) (by omega)) ?_
      refine r_ialds (d := mX6_ticks) (pc := 31) (a := 156) (x := ((tcS (I 156) c) (28 + 5 * (c : Int) + 0))) dX6_ticks_31 ly156 (by omega) (by omega) (rfl) ?_
      refine r_iconst (d := mX6_ticks) (pc := 32) (n := 1) dX6_ticks_32 ?_
      refine r_icmp_ne (d := mX6_ticks) (pc := 33) (tgt := 83) dX6_ticks_33 (by decide) (fun h33 => ?_) (fun h33 => ?_)
      · refine r_iinc (d := mX6_ticks) (pc := 83) (i := 1) (v := (c : Int)) (y := ((c + 1 : Nat) : Int)) (lv' := [(0, .inr (some 155)), (1, .inl ((c + 1 : Nat) : Int))]) dX6_ticks_83 rfl (by decide) rfl (by omega) rfl ?_
        refine r_goto (d := mX6_ticks) (pc := 86) (tgt := 12) dX6_ticks_86 (by decide) ?_
        exact wpE (by simp) rfl (by refine memE ?_; rw [tcS, if_neg (by omega)]) (ih12 (by omega) (by omega))
      · refine r_aload_n (d := mX6_ticks) (pc := 36) (i := 0) (v := 155) dX6_ticks_36 rfl rfl ?_
        refine r_getRs (d := mX6_ticks) (pc := 37) (a := 155) (kd := 6) (j := 0) (x := 156) dX6_ticks_37 flRX6_7 ly155 (by decide) (by decide) rfl hM.1 ?_
        refine r_iload_n (d := mX6_ticks) (pc := 40) (i := 1) (v := (c : Int)) dX6_ticks_40 rfl rfl ?_
        refine r_iconst (d := mX6_ticks) (pc := 41) (n := 3) dX6_ticks_41 ?_
        refine r_cS2 (d := mX6_ticks) (pc := 42) (dj := mX6_at) dX6_ticks_42 mlRX6_65 staX6_at okX6_at (by decide) rfl (Nat.le_of_ble_eq_true rfl) (by decide) (by decide) (Fn_X6_at (k + 3) (arS I 156 (tcS (I 156) c)) P (c : Int) 3 (by omega) (by omega) (by omega) (by omega)) ?_
        refine r_ialds (d := mX6_ticks) (pc := 45) (a := 156) (x := ((tcS (I 156) c) (28 + 5 * (c : Int) + 3))) dX6_ticks_45 ly156 (by omega) (by omega) (rfl) ?_
        refine r_if_lt (d := mX6_ticks) (pc := 46) (tgt := 83) dX6_ticks_46 (by decide) (fun h46 => ?_) (fun h46 => ?_)
        · refine r_iinc (d := mX6_ticks) (pc := 83) (i := 1) (v := (c : Int)) (y := ((c + 1 : Nat) : Int)) (lv' := [(0, .inr (some 155)), (1, .inl ((c + 1 : Nat) : Int))]) dX6_ticks_83 rfl (by decide) rfl (by omega) rfl ?_
          refine r_goto (d := mX6_ticks) (pc := 86) (tgt := 12) dX6_ticks_86 (by decide) ?_
          exact wpE (by simp) rfl (by refine memE ?_; rw [tcS, if_neg (by omega)]) (ih12 (by omega) (by omega))
        · refine r_aload_n (d := mX6_ticks) (pc := 49) (i := 0) (v := 155) dX6_ticks_49 rfl rfl ?_
          refine r_getRs (d := mX6_ticks) (pc := 50) (a := 155) (kd := 6) (j := 0) (x := 156) dX6_ticks_50 flRX6_7 ly155 (by decide) (by decide) rfl hM.1 ?_
          refine r_iload_n (d := mX6_ticks) (pc := 53) (i := 1) (v := (c : Int)) dX6_ticks_53 rfl rfl ?_
          refine r_iconst (d := mX6_ticks) (pc := 54) (n := 3) dX6_ticks_54 ?_
          refine r_cS2 (d := mX6_ticks) (pc := 55) (dj := mX6_at) dX6_ticks_55 mlRX6_65 staX6_at okX6_at (by decide) rfl (Nat.le_of_ble_eq_true rfl) (by decide) (by decide) (Fn_X6_at (k + 3) (arS I 156 (tcS (I 156) c)) P (c : Int) 3 (by omega) (by omega) (by omega) (by omega)) ?_
          refine r_ialds (d := mX6_ticks) (pc := 58) (a := 156) (x := ((tcS (I 156) c) (28 + 5 * (c : Int) + 3))) dX6_ticks_58 ly156 (by omega) (by omega) (rfl) ?_
          refine r_aload_n (d := mX6_ticks) (pc := 59) (i := 0) (v := 155) dX6_ticks_59 rfl rfl ?_
          refine r_getRs (d := mX6_ticks) (pc := 60) (a := 155) (kd := 6) (j := 0) (x := 156) dX6_ticks_60 flRX6_7 ly155 (by decide) (by decide) rfl hM.1 ?_
          refine r_iconst (d := mX6_ticks) (pc := 63) (n := 1) dX6_ticks_63 ?_
          refine r_ialds (d := mX6_ticks) (pc := 64) (a := 156) (x := ((tcS (I 156) c) 1)) dX6_ticks_64 ly156 (by decide) (by decide) (rfl) ?_
          refine r_icmp_gt (d := mX6_ticks) (pc := 65) (tgt := 83) dX6_ticks_65 (by decide) (fun h65 => ?_) (fun h65 => ?_)
          · refine r_iinc (d := mX6_ticks) (pc := 83) (i := 1) (v := (c : Int)) (y := ((c + 1 : Nat) : Int)) (lv' := [(0, .inr (some 155)), (1, .inl ((c + 1 : Nat) : Int))]) dX6_ticks_83 rfl (by decide) rfl (by omega) rfl ?_
            refine r_goto (d := mX6_ticks) (pc := 86) (tgt := 12) dX6_ticks_86 (by decide) ?_
            exact wpE (by simp) rfl (by refine memE ?_; rw [tcS, if_neg (by omega)]) (ih12 (by omega) (by omega))
          · refine r_aload_n (d := mX6_ticks) (pc := 68) (i := 0) (v := 155) dX6_ticks_68 rfl rfl ?_
            refine r_iload_n (d := mX6_ticks) (pc := 69) (i := 1) (v := (c : Int)) dX6_ticks_69 rfl rfl ?_
            refine r_aload_n (d := mX6_ticks) (pc := 70) (i := 0) (v := 155) dX6_ticks_70 rfl rfl ?_
            refine r_getRs (d := mX6_ticks) (pc := 71) (a := 155) (kd := 6) (j := 0) (x := 156) dX6_ticks_71 flRX6_7 ly155 (by decide) (by decide) rfl hM.1 ?_
            refine r_iload_n (d := mX6_ticks) (pc := 74) (i := 1) (v := (c : Int)) dX6_ticks_74 rfl rfl ?_
            refine r_iconst (d := mX6_ticks) (pc := 75) (n := 1) dX6_ticks_75 ?_
            refine r_cS2 (d := mX6_ticks) (pc := 76) (dj := mX6_at) dX6_ticks_76 mlRX6_65 staX6_at okX6_at (by decide) rfl (Nat.le_of_ble_eq_true rfl) (by decide) (by decide) (Fn_X6_at (k + 3) (arS I 156 (tcS (I 156) c)) P (c : Int) 1 (by omega) (by omega) (by omega) (by omega)) ?_
            refine r_ialds (d := mX6_ticks) (pc := 79) (a := 156) (x := ((tcS (I 156) c) (28 + 5 * (c : Int) + 1))) dX6_ticks_79 ly156 (by omega) (by omega) (rfl) ?_
            refine r_cV2 (d := mX6_ticks) (pc := 80) (dj := mX6_isKnown) (a := 155) (kd := 6) dX6_ticks_80 mlRX6_95 inX6_isKnown selX6_isKnown rfl ly155 (by decide) okX6_isKnown (by decide) rfl (Nat.le_of_ble_eq_true rfl) (by decide) (by decide) (Fn_X6_isKnown (k + 2) (arS I 156 (tcS (I 156) c)) P hM (c : Int) ((tcS (I 156) c) (28 + 5 * (c : Int) + 1)) (by omega) (by omega)) ?_
            refine wpE (lv' := [(0, .inr (some 155)), (1, .inl (c : Int))]) (st' := []) (M' := (lay0, arS I 156 (ikS (tcS (I 156) c) (c : Int) ((tcS (I 156) c) (28 + 5 * (c : Int) + 1))), P)) rfl rfl (memE (arS_arS _ _ _ _)) ?_
            refine r_iinc (d := mX6_ticks) (pc := 83) (i := 1) (v := (c : Int)) (y := ((c + 1 : Nat) : Int)) (lv' := [(0, .inr (some 155)), (1, .inl ((c + 1 : Nat) : Int))]) dX6_ticks_83 rfl (by decide) rfl (by omega) rfl ?_
            refine r_goto (d := mX6_ticks) (pc := 86) (tgt := 12) dX6_ticks_86 (by decide) ?_
            exact wpE (by simp) rfl (by refine memE ?_; rw [tcS, if_pos (by omega)]) (ih12 (by omega) (by omega))
  exact wpE (by simp) rfl (by rfl) (L12 0 (by omega))
