/-! ===== Room: commands; what there is ===== -/
def pfV (I : mIt) (b n mc nc : Nat) (cmd x y z : Int) : Int := if 0 ≤ cmd ∧ cmd ≤ 2 then goV I b n mc nc cmd x y z else if cmd = 3 then pvV I b n mc nc x y else if cmd = 4 then cnV I b n mc nc x y else if cmd = 5 then ltV I b n x else if cmd = 6 then (if 3 ≤ mc then -3 else (mc : Int)) else if cmd = 7 then (if mc = 0 then -2 else ((mc - 1 : Nat) : Int)) else if cmd = 8 then gbV I b n mc x else -1
def pfI (I : mIt) (b n mc nc : Nat) (cmd x y z : Int) : mIt := if 0 ≤ cmd ∧ cmd ≤ 2 then goM I b n mc nc cmd x y z else if cmd = 3 then pvI I b n mc nc x y else if cmd = 4 then cnI I b n mc nc x y else if cmd = 5 then ltI I b n x else if cmd = 6 then amI I b mc else if cmd = 7 then dfI I b n mc else if cmd = 8 then gbI I b n mc x else I
theorem bOr_pow : ∀ n : Nat, n < 8 → ∀ m : Nat, m < 2 ^ n → bOr (m : Int) (bShl 1 (n : Int)) = ((m + 2 ^ n : Nat) : Int) := by decide +kernel
theorem nmask_rng (f : Int → Int) (w : Int) (n : Nat) (hn : n ≤ 8) : 0 ≤ nmask f w n ∧ nmask f w n < ((2 ^ n : Nat) : Int) := by
  induction n with
  | zero => simp [nmask]
  | succ n ih =>
    obtain ⟨h0, h1⟩ := ih (by omega)
    have e : ((2 ^ (n + 1) : Nat) : Int) = ((2 ^ n : Nat) : Int) + ((2 ^ n : Nat) : Int) := by rw [Nat.pow_succ]; omega
    unfold nmask
    split
    · obtain ⟨m, hm⟩ : ∃ m : Nat, nmask f w n = m := ⟨(nmask f w n).toNat, by omega⟩
      rw [hm, bOr_pow n (by omega) m (by omega)]
      omega
    · omega
theorem nmask_256 (f : Int → Int) (w : Int) : 0 ≤ nmask f w 8 ∧ nmask f w 8 < 256 := nmask_rng f w 8 (Nat.le_refl _)
theorem Fn_bc (k : Nat) (I : mIt) (P : mPt) (x : Int) (h0 : 0 ≤ x) (h1 : x < 256) : WP (k + 0) mJ6_bitCount_0f7a4 none (0, 0) (Rt (some (.inl (onesF x 8))) (lay0, I, P)) 0 [(0, .inl x)] [] (lay0, I, P) := by
  obtain ⟨n, rfl⟩ : ∃ n : Nat, x = n := ⟨x.toNat, by omega⟩
  exact Fn_J6_bitCount_0f7a4 k I P n (by omega)
theorem onesF_rng (m : Int) (n : Nat) (h : ∀ i : Nat, i < n → 0 ≤ bAnd (bShr m i) 1 ∧ bAnd (bShr m i) 1 ≤ 1) : 0 ≤ onesF m n ∧ onesF m n ≤ n := by
  induction n with
  | zero => exact ⟨Int.le_refl _, Int.le_refl _⟩
  | succ n ih =>
    have h1 := ih (fun i hi => h i (by omega))
    have h2 := h n (by omega)
    unfold onesF
    omega
theorem onesF_256 : ∀ m : Nat, m < 256 → 0 ≤ onesF (m : Int) 8 ∧ onesF (m : Int) 8 ≤ 8 := by decide +kernel
theorem onesF_8 {x : Int} (h0 : 0 ≤ x) (h1 : x < 256) : 0 ≤ onesF x 8 ∧ onesF x 8 ≤ 8 := by
  obtain ⟨n, rfl⟩ : ∃ n : Nat, x = n := ⟨x.toNat, by omega⟩
  exact onesF_256 n (by omega)
def tmV (I : mIt) (b : Nat) (m name what : Int) : Int := if ¬ ((0 ≤ m ∧ m < I b 6 ∧ m < 3) ∧ (0 ≤ name ∧ name ≤ 7) ∧ (0 ≤ what ∧ what ≤ 1)) then -1 else if what = 1 then I (mH b m) name else fnd4 (I (mC b m) name)
def tnX (I : mIt) (b : Nat) (name : Int) : Int := if I (b + 3) name = -1 then I (b + 4) name else vOn (I (b + 6)) (I (b + 3) name)
def tnV (I : mIt) (b : Nat) (name what : Int) : Int := if ¬ (0 ≤ name ∧ name ≤ 7) then -1 else if what = 0 then (if I (b + 3) name ≠ -1 ∧ ¬ kOf (I (b + 7)) (I (b + 3) name) ≤ I b 1 then -4 else tnX I b name) else if what = 1 then fnd4 (I (b + 3) name) else if what = 2 then I (b + 4) name else if what = 3 then (if I (b + 3) name = -1 then -4 else onesF (nmask (I (b + 3)) (I (b + 3) name) 8) 8) else if what = 4 then tnX I b name else -1
def tcV (I : mIt) (b n mc nc : Nat) (ch what : Int) : Int := if ¬ ((0 ≤ ch ∧ ch ≤ (nc : Int) - 1) ∧ (0 ≤ what ∧ what ≤ 5)) then -1 else if bAnd (bShr (tkn I b n mc) ch) 1 = 0 then -4 else if what = 0 then (if kOf (I (b + 7)) ch ≤ I b 1 then vOn (I (b + 6)) ch else -4) else if what = 1 then nmask (I (b + 3)) ch 8 else if what = 2 then mkOn (mks I b) ch mc else if what = 3 then rdrs (I (b + 12)) (I (b + 13)) ch n else if what = 4 then (if anyE (I (b + 11)) ch n = true then 1 else 0) else (if luF (bAnd (cset (I (b + 3)) 8) (bXor (pinA I b n mc) (-1))) (I b 1) (I (b + 7)) (I (b + 8)) nc = ch then 1 else 0)
def hbP (I : mIt) (b : Nat) (ix : Int) : Prop := (0 ≤ ix ∧ ix < I (b + 9) 0 ∧ ix < 6) ∧ kOf (I (b + 7)) (I (b + 11) ix) ≠ 1000000
def toV (I : mIt) (b : Nat) (ix what : Int) : Int := if ¬ (0 ≤ ix ∧ ix < I (b + 9) 0 ∧ ix < 6) then -1 else if what = 0 then I (b + 10) ix else if what = 1 then I (b + 11) ix else if what = 2 then I (b + 12) ix else if what = 3 then I (b + 13) ix else if what = 4 then (if kOf (I (b + 7)) (I (b + 11) ix) ≠ 1000000 then 1 else 0) else if what = 5 then (if kOf (I (b + 7)) (I (b + 11) ix) ≠ 1000000 then kOf (I (b + 7)) (I (b + 11) ix) - I b 1 else -4) else if what = 6 then I (b + 14) ix else -1
def tuV (I : mIt) (b n mc nc : Nat) (what : Int) : Int := if what = 0 then (nc : Int) else if what = 1 then (nc : Int) - onesF (tkn I b n mc) 8 else if what = 2 then 8 - onesF (nmask (I (b + 3)) (-1) 8) 8 else if what = 3 then (n : Int) else if what = 4 then bgn (I (b + 7)) (I (b + 11)) n else if what = 5 then I b 2 else if what = 6 then I b 1 else if what = 7 then (mc : Int) else if what = 8 then I b 3 else if what = 9 then I b 4 else if 20 ≤ what ∧ what ≤ 23 then I (b + 1) (what - 20) else -1
set_option maxRecDepth 20000 in
set_option maxHeartbeats 4000000 in
theorem Fn_X2_perform (k : Nat) (I : mIt) (P : mPt) (b : Nat) (hR : isRm P b) (n : Nat) (hn : I (b + 9) 0 = n) (hn6 : n ≤ 6) (mc : Nat) (hm : I b 6 = mc) (hm3 : mc ≤ 3) (nc : Nat) (hc : I b 0 = nc) (hc7 : nc ≤ 7) (hB : Bd I b) (hB3 : I b 3 ≤ 1999999990) (hB4 : I b 4 ≤ 1999999990) (hB5 : I b 5 ≤ 1999999990) (hB2 : I b 2 ≤ 1999990000) (hV : Vl I b) (cmd x y z : Int) : WP (k + 4) mX2_perform none (0, 0) (Rt (some (.inl (pfV I b n mc nc cmd x y z))) (lay0, pfI I b n mc nc cmd x y z, P)) 0 [(0, .inr (some b)), (1, .inl cmd), (2, .inl x), (3, .inl y), (4, .inl z)] [] (lay0, I, P) := by
  refine r_iload_n (d := mX2_perform) (pc := 0) (i := 1) (v := cmd) dX2_perform_0 rfl rfl ?_
  by_cases hs1_0 : cmd = 0
  · rw [hs1_0]
    refine r_tableIn (d := mX2_perform) (pc := 1) (tgt := 52) (off := 51) dX2_perform_1 (by decide) (by decide) rfl (by decide) ?_
    refine r_aload_n (d := mX2_perform) (pc := 52) (i := 0) (v := b) dX2_perform_52 rfl rfl ?_
    refine r_iload_n (d := mX2_perform) (pc := 53) (i := 1) (v := 0) dX2_perform_53 rfl rfl ?_
    refine r_iload_n (d := mX2_perform) (pc := 54) (i := 2) (v := x) dX2_perform_54 rfl rfl ?_
    refine r_iload_n (d := mX2_perform) (pc := 55) (i := 3) (v := y) dX2_perform_55 rfl rfl ?_
    refine r_iload (d := mX2_perform) (pc := 56) (i := 4) (v := z) dX2_perform_56 rfl ?_
    refine r_cV4 (d := mX2_perform) (pc := 58) (dj := mX2_giveOrder) (a := b) (kd := 2) dX2_perform_58 mlRX2_72 inX2_giveOrder selX2_giveOrder rfl hR.1.1 (by decide) okX2_giveOrder (by decide) rfl (Nat.le_of_ble_eq_true rfl) (by decide) (by decide) (Fn_X2_giveOrder k I P b hR n hn hn6 mc hm hm3 nc hc hc7 hB hB3 hB4 hB5 hV 0 x y z) ?_
    exact r_iret (d := mX2_perform) (pc := 61) dX2_perform_61 rfl (rtI (by simp [pfV]) (by simp [pfI])) (by decide) (by decide)
  by_cases hs1_1 : cmd = 1
  · rw [hs1_1]
    refine r_tableIn (d := mX2_perform) (pc := 1) (tgt := 52) (off := 51) dX2_perform_1 (by decide) (by decide) rfl (by decide) ?_
    refine r_aload_n (d := mX2_perform) (pc := 52) (i := 0) (v := b) dX2_perform_52 rfl rfl ?_
    refine r_iload_n (d := mX2_perform) (pc := 53) (i := 1) (v := 1) dX2_perform_53 rfl rfl ?_
    refine r_iload_n (d := mX2_perform) (pc := 54) (i := 2) (v := x) dX2_perform_54 rfl rfl ?_
    refine r_iload_n (d := mX2_perform) (pc := 55) (i := 3) (v := y) dX2_perform_55 rfl rfl ?_
    refine r_iload (d := mX2_perform) (pc := 56) (i := 4) (v := z) dX2_perform_56 rfl ?_
    refine r_cV4 (d := mX2_perform) (pc := 58) (dj := mX2_giveOrder) (a := b) (kd := 2) dX2_perform_58 mlRX2_72 inX2_giveOrder selX2_giveOrder rfl hR.1.1 (by decide) okX2_giveOrder (by decide) rfl (Nat.le_of_ble_eq_true rfl) (by decide) (by decide) (Fn_X2_giveOrder k I P b hR n hn hn6 mc hm hm3 nc hc hc7 hB hB3 hB4 hB5 hV 1 x y z) ?_
    exact r_iret (d := mX2_perform) (pc := 61) dX2_perform_61 rfl (rtI (by simp [pfV]) (by simp [pfI])) (by decide) (by decide)
  by_cases hs1_2 : cmd = 2
  · rw [hs1_2]
    refine r_tableIn (d := mX2_perform) (pc := 1) (tgt := 52) (off := 51) dX2_perform_1 (by decide) (by decide) rfl (by decide) ?_
    refine r_aload_n (d := mX2_perform) (pc := 52) (i := 0) (v := b) dX2_perform_52 rfl rfl ?_
    refine r_iload_n (d := mX2_perform) (pc := 53) (i := 1) (v := 2) dX2_perform_53 rfl rfl ?_
    refine r_iload_n (d := mX2_perform) (pc := 54) (i := 2) (v := x) dX2_perform_54 rfl rfl ?_
    refine r_iload_n (d := mX2_perform) (pc := 55) (i := 3) (v := y) dX2_perform_55 rfl rfl ?_
    refine r_iload (d := mX2_perform) (pc := 56) (i := 4) (v := z) dX2_perform_56 rfl ?_
    refine r_cV4 (d := mX2_perform) (pc := 58) (dj := mX2_giveOrder) (a := b) (kd := 2) dX2_perform_58 mlRX2_72 inX2_giveOrder selX2_giveOrder rfl hR.1.1 (by decide) okX2_giveOrder (by decide) rfl (Nat.le_of_ble_eq_true rfl) (by decide) (by decide) (Fn_X2_giveOrder k I P b hR n hn hn6 mc hm hm3 nc hc hc7 hB hB3 hB4 hB5 hV 2 x y z) ?_
    exact r_iret (d := mX2_perform) (pc := 61) dX2_perform_61 rfl (rtI (by simp [pfV]) (by simp [pfI])) (by decide) (by decide)
  by_cases hs1_3 : cmd = 3
  · rw [hs1_3]
    refine r_tableIn (d := mX2_perform) (pc := 1) (tgt := 62) (off := 61) dX2_perform_1 (by decide) (by decide) rfl (by decide) ?_
    refine r_aload_n (d := mX2_perform) (pc := 62) (i := 0) (v := b) dX2_perform_62 rfl rfl ?_
    refine r_iload_n (d := mX2_perform) (pc := 63) (i := 2) (v := x) dX2_perform_63 rfl rfl ?_
    refine r_iload_n (d := mX2_perform) (pc := 64) (i := 3) (v := y) dX2_perform_64 rfl rfl ?_
    refine r_cV2 (d := mX2_perform) (pc := 65) (dj := mX2_putValue) (a := b) (kd := 2) dX2_perform_65 mlRX2_76 inX2_putValue selX2_putValue rfl hR.1.1 (by decide) okX2_putValue (by decide) rfl (Nat.le_of_ble_eq_true rfl) (by decide) (by decide) (Fn_X2_putValue (k + 1) I P b hR n hn hn6 mc hm hm3 nc hc hc7 hB hB3 hB4 hB5 x y) ?_
    exact r_iret (d := mX2_perform) (pc := 68) dX2_perform_68 rfl (rtI (by simp [pfV]) (by simp [pfI])) (by decide) (by decide)
  by_cases hs1_4 : cmd = 4
  · rw [hs1_4]
    refine r_tableIn (d := mX2_perform) (pc := 1) (tgt := 69) (off := 68) dX2_perform_1 (by decide) (by decide) rfl (by decide) ?_
    refine r_aload_n (d := mX2_perform) (pc := 69) (i := 0) (v := b) dX2_perform_69 rfl rfl ?_
    refine r_iload_n (d := mX2_perform) (pc := 70) (i := 2) (v := x) dX2_perform_70 rfl rfl ?_
    refine r_iload_n (d := mX2_perform) (pc := 71) (i := 3) (v := y) dX2_perform_71 rfl rfl ?_
    refine r_cV2 (d := mX2_perform) (pc := 72) (dj := mX2_copyName) (a := b) (kd := 2) dX2_perform_72 mlRX2_80 inX2_copyName selX2_copyName rfl hR.1.1 (by decide) okX2_copyName (by decide) rfl (Nat.le_of_ble_eq_true rfl) (by decide) (by decide) (Fn_X2_copyName k I P b hR n hn hn6 mc hm hm3 nc hc hc7 hB hB3 hB4 hB5 x y) ?_
    exact r_iret (d := mX2_perform) (pc := 75) dX2_perform_75 rfl (rtI (by simp [pfV]) (by simp [pfI])) (by decide) (by decide)
  by_cases hs1_5 : cmd = 5
  · rw [hs1_5]
    refine r_tableIn (d := mX2_perform) (pc := 1) (tgt := 76) (off := 75) dX2_perform_1 (by decide) (by decide) rfl (by decide) ?_
    refine r_aload_n (d := mX2_perform) (pc := 76) (i := 0) (v := b) dX2_perform_76 rfl rfl ?_
    refine r_iload_n (d := mX2_perform) (pc := 77) (i := 2) (v := x) dX2_perform_77 rfl rfl ?_
    refine r_cV1 (d := mX2_perform) (pc := 78) (dj := mX2_letTicksGo) (a := b) (kd := 2) dX2_perform_78 mlRX2_83 inX2_letTicksGo selX2_letTicksGo rfl hR.1.1 (by decide) okX2_letTicksGo (by decide) rfl (Nat.le_of_ble_eq_true rfl) (by decide) (by decide) (Fn_X2_letTicksGo k I P b hR n hn hn6 hB hB2 x) ?_
    exact r_iret (d := mX2_perform) (pc := 81) dX2_perform_81 rfl (rtI (by simp [pfV]) (by simp [pfI])) (by decide) (by decide)
  by_cases hs1_6 : cmd = 6
  · rw [hs1_6]
    refine r_tableIn (d := mX2_perform) (pc := 1) (tgt := 82) (off := 81) dX2_perform_1 (by decide) (by decide) rfl (by decide) ?_
    refine r_aload_n (d := mX2_perform) (pc := 82) (i := 0) (v := b) dX2_perform_82 rfl rfl ?_
    refine r_cV0 (d := mX2_perform) (pc := 83) (dj := mX2_addMark) (a := b) (kd := 2) dX2_perform_83 mlRX2_87 inX2_addMark selX2_addMark rfl hR.1.1 (by decide) okX2_addMark (by decide) rfl (Nat.le_of_ble_eq_true rfl) (by decide) (by decide) (Fn_X2_addMark (k + 2) I P b hR mc hm hm3 ) ?_
    exact r_iret (d := mX2_perform) (pc := 86) dX2_perform_86 rfl (rtI (by simp [pfV]) (by simp [pfI])) (by decide) (by decide)
  by_cases hs1_7 : cmd = 7
  · rw [hs1_7]
    refine r_tableIn (d := mX2_perform) (pc := 1) (tgt := 87) (off := 86) dX2_perform_1 (by decide) (by decide) rfl (by decide) ?_
    refine r_aload_n (d := mX2_perform) (pc := 87) (i := 0) (v := b) dX2_perform_87 rfl rfl ?_
    refine r_cV0 (d := mX2_perform) (pc := 88) (dj := mX2_dropFirstMark) (a := b) (kd := 2) dX2_perform_88 mlRX2_91 inX2_dropFirstMark selX2_dropFirstMark rfl hR.1.1 (by decide) okX2_dropFirstMark (by decide) rfl (Nat.le_of_ble_eq_true rfl) (by decide) (by decide) (Fn_X2_dropFirstMark (k + 2) I P b hR n hn hn6 mc hm hm3 ) ?_
    exact r_iret (d := mX2_perform) (pc := 91) dX2_perform_91 rfl (rtI (by simp [pfV]) (by simp [pfI])) (by decide) (by decide)
  by_cases hs1_8 : cmd = 8
  · rw [hs1_8]
    refine r_tableIn (d := mX2_perform) (pc := 1) (tgt := 92) (off := 91) dX2_perform_1 (by decide) (by decide) rfl (by decide) ?_
    refine r_aload_n (d := mX2_perform) (pc := 92) (i := 0) (v := b) dX2_perform_92 rfl rfl ?_
    refine r_iload_n (d := mX2_perform) (pc := 93) (i := 2) (v := x) dX2_perform_93 rfl rfl ?_
    refine r_cV1 (d := mX2_perform) (pc := 94) (dj := mX2_goBack) (a := b) (kd := 2) dX2_perform_94 mlRX2_94 inX2_goBack selX2_goBack rfl hR.1.1 (by decide) okX2_goBack (by decide) rfl (Nat.le_of_ble_eq_true rfl) (by decide) (by decide) (Fn_X2_goBack (k + 2) I P b hR n hn hn6 mc hm hm3 x) ?_
    exact r_iret (d := mX2_perform) (pc := 97) dX2_perform_97 rfl (rtI (by simp [pfV]) (by simp [pfI])) (by decide) (by decide)
  refine r_tableOut (d := mX2_perform) (pc := 1) (tgt := 98) dX2_perform_1 (by omega) (by decide) ?_
  refine r_iconst (d := mX2_perform) (pc := 98) (n := (-1)) dX2_perform_98 ?_
  exact r_iret (d := mX2_perform) (pc := 99) dX2_perform_99 rfl (rtI (by simp only [pfV]; rw [if_neg (by omega), if_neg (by omega), if_neg (by omega), if_neg (by omega), if_neg (by omega), if_neg (by omega), if_neg (by omega)]) (by simp only [pfI]; rw [if_neg (by omega), if_neg (by omega), if_neg (by omega), if_neg (by omega), if_neg (by omega), if_neg (by omega), if_neg (by omega)])) (by decide) (by decide)
set_option maxRecDepth 20000 in
set_option maxHeartbeats 4000000 in
theorem Fn_X2_tellMark (k : Nat) (I : mIt) (P : mPt) (b : Nat) (hR : isRm P b) (m name what : Int) : WP (k + 2) mX2_tellMark none (0, 0) (Rt (some (.inl (tmV I b m name what))) (lay0, I, P)) 0 [(0, .inr (some b)), (1, .inl m), (2, .inl name), (3, .inl what)] [] (lay0, I, P) := by
  refine r_aload_n (d := mX2_tellMark) (pc := 0) (i := 0) (v := b) dX2_tellMark_0 rfl rfl ?_
  refine r_iload_n (d := mX2_tellMark) (pc := 1) (i := 1) (v := m) dX2_tellMark_1 rfl rfl ?_
  refine r_cV1 (d := mX2_tellMark) (pc := 2) (dj := mX2_isMark) (a := b) (kd := 2) dX2_tellMark_2 mlRX2_144 inX2_isMark selX2_isMark rfl hR.1.1 (by decide) okX2_isMark (by decide) rfl (Nat.le_of_ble_eq_true rfl) (by decide) (by decide) (Fn_X2_isMark (k + 1) I P b hR m) ?_
  refine r_ifb_eq (d := mX2_tellMark) (pc := 5) (tgt := 24) dX2_tellMark_5 (by decide) (fun h5 => ?_) (fun h5 => ?_)
  · refine r_iconst (d := mX2_tellMark) (pc := 24) (n := (-1)) dX2_tellMark_24 ?_
    exact r_iret (d := mX2_tellMark) (pc := 25) dX2_tellMark_25 rfl (rtI (by rw [tmV, if_pos (by omega)]) (by rfl)) (by decide) (by decide)
  · refine r_iload_n (d := mX2_tellMark) (pc := 8) (i := 2) (v := name) dX2_tellMark_8 rfl rfl ?_
    refine r_cSN1 (d := mX2_tellMark) (pc := 9) (dj := mX5_isName) dX2_tellMark_9 mnRX2_107 staX5_isName okX5_isName (by decide) rfl (Nat.le_of_ble_eq_true rfl) (by decide) (by decide) (Fn_X5_isName k I P name) ?_
    refine r_ifb_eq (d := mX2_tellMark) (pc := 12) (tgt := 24) dX2_tellMark_12 (by decide) (fun h12 => ?_) (fun h12 => ?_)
    · refine r_iconst (d := mX2_tellMark) (pc := 24) (n := (-1)) dX2_tellMark_24 ?_
      exact r_iret (d := mX2_tellMark) (pc := 25) dX2_tellMark_25 rfl (rtI (by rw [tmV, if_pos (by omega)]) (by rfl)) (by decide) (by decide)
    · refine r_iload_n (d := mX2_tellMark) (pc := 15) (i := 3) (v := what) dX2_tellMark_15 rfl rfl ?_
      refine r_iconst (d := mX2_tellMark) (pc := 16) (n := 0) dX2_tellMark_16 ?_
      refine r_iconst (d := mX2_tellMark) (pc := 17) (n := 1) dX2_tellMark_17 ?_
      refine r_cSN3 (d := mX2_tellMark) (pc := 18) (dj := mX5_within) dX2_tellMark_18 mnRX2_97 staX5_within okX5_within (by decide) rfl (Nat.le_of_ble_eq_true rfl) (by decide) (by decide) (Fn_X5_within (k + 1) I P what 0 1) ?_
      refine r_ifb_ne (d := mX2_tellMark) (pc := 21) (tgt := 26) dX2_tellMark_21 (by decide) (fun h21 => ?_) (fun h21 => ?_)
      · refine r_iload_n (d := mX2_tellMark) (pc := 26) (i := 3) (v := what) dX2_tellMark_26 rfl rfl ?_
        refine r_iconst (d := mX2_tellMark) (pc := 27) (n := 1) dX2_tellMark_27 ?_
        refine r_icmp_ne (d := mX2_tellMark) (pc := 28) (tgt := 43) dX2_tellMark_28 (by decide) (fun h28 => ?_) (fun h28 => ?_)
        · refine r_aload_n (d := mX2_tellMark) (pc := 43) (i := 0) (v := b) dX2_tellMark_43 rfl rfl ?_
          refine r_getRs (d := mX2_tellMark) (pc := 44) (a := b) (kd := 2) (j := 11) (x := b + 15) dX2_tellMark_44 flRX2_58 hR.1.1 (by decide) (by decide) rfl hR.2.1.2.2.2.2 ?_
          refine r_iload_n (d := mX2_tellMark) (pc := 47) (i := 1) (v := m) dX2_tellMark_47 rfl rfl ?_
          refine r_aald12s (d := mX2_tellMark) (pc := 48) (a := b + 15) (x := mA b m) dX2_tellMark_48 hR.1.2.2 (by omega) (by omega) ((hR.mark (by omega) (by omega)).1) ?_
          refine r_getRs (d := mX2_tellMark) (pc := 49) (a := mA b m) (kd := 0) (j := 0) (x := mC b m) dX2_tellMark_49 flRX2_111 (hR.mark (i := m) (by omega) (by omega)).2.1 (by decide) (by decide) rfl (hR.mark (i := m) (by omega) (by omega)).2.2.2.2.1 ?_
          refine r_iload_n (d := mX2_tellMark) (pc := 52) (i := 2) (v := name) dX2_tellMark_52 rfl rfl ?_
          refine r_ialds (d := mX2_tellMark) (pc := 53) (a := mC b m) (x := (I (mC b m) name)) dX2_tellMark_53 (hR.mark (i := m) (by omega) (by omega)).2.2.1 (by omega) (by omega) (rfl) ?_
          refine r_cS1 (d := mX2_tellMark) (pc := 54) (dj := mX2_found) dX2_tellMark_54 mlRX2_208 staX2_found okX2_found (by decide) rfl (Nat.le_of_ble_eq_true rfl) (by decide) (by decide) (Fn_X2_found (k + 1) I P (I (mC b m) name)) ?_
          exact r_iret (d := mX2_tellMark) (pc := 57) dX2_tellMark_57 rfl (rtI (by rw [tmV, if_neg (by omega), if_neg h28]) (by rfl)) (by decide) (by decide)
        · refine r_aload_n (d := mX2_tellMark) (pc := 31) (i := 0) (v := b) dX2_tellMark_31 rfl rfl ?_
          refine r_getRs (d := mX2_tellMark) (pc := 32) (a := b) (kd := 2) (j := 11) (x := b + 15) dX2_tellMark_32 flRX2_58 hR.1.1 (by decide) (by decide) rfl hR.2.1.2.2.2.2 ?_
          refine r_iload_n (d := mX2_tellMark) (pc := 35) (i := 1) (v := m) dX2_tellMark_35 rfl rfl ?_
          refine r_aald12s (d := mX2_tellMark) (pc := 36) (a := b + 15) (x := mA b m) dX2_tellMark_36 hR.1.2.2 (by omega) (by omega) ((hR.mark (by omega) (by omega)).1) ?_
          refine r_getRs (d := mX2_tellMark) (pc := 37) (a := mA b m) (kd := 0) (j := 1) (x := mH b m) dX2_tellMark_37 flRX2_150 (hR.mark (i := m) (by omega) (by omega)).2.1 (by decide) (by decide) rfl (hR.mark (i := m) (by omega) (by omega)).2.2.2.2.2 ?_
          refine r_iload_n (d := mX2_tellMark) (pc := 40) (i := 2) (v := name) dX2_tellMark_40 rfl rfl ?_
          refine r_ialds (d := mX2_tellMark) (pc := 41) (a := mH b m) (x := (I (mH b m) name)) dX2_tellMark_41 (hR.mark (i := m) (by omega) (by omega)).2.2.2.1 (by omega) (by omega) (rfl) ?_
          exact r_iret (d := mX2_tellMark) (pc := 42) dX2_tellMark_42 rfl (rtI (by rw [tmV, if_neg (by omega), if_pos h28]) (by rfl)) (by decide) (by decide)
      · refine r_iconst (d := mX2_tellMark) (pc := 24) (n := (-1)) dX2_tellMark_24 ?_
        exact r_iret (d := mX2_tellMark) (pc := 25) dX2_tellMark_25 rfl (rtI (by rw [tmV, if_pos (by omega)]) (by rfl)) (by decide) (by decide)
set_option maxRecDepth 20000 in
set_option maxHeartbeats 4000000 in
theorem Fn_X2_tellName (k : Nat) (I : mIt) (P : mPt) (b : Nat) (hR : isRm P b) (name what : Int) : WP (k + 3) mX2_tellName none (0, 0) (Rt (some (.inl (tnV I b name what))) (lay0, I, P)) 0 [(0, .inr (some b)), (1, .inl name), (2, .inl what)] [] (lay0, I, P) := by
  refine r_iload_n (d := mX2_tellName) (pc := 0) (i := 1) (v := name) dX2_tellName_0 rfl rfl ?_
  refine r_cSN1 (d := mX2_tellName) (pc := 1) (dj := mX5_isName) dX2_tellName_1 mnRX2_107 staX5_isName okX5_isName (by decide) rfl (Nat.le_of_ble_eq_true rfl) (by decide) (by decide) (Fn_X5_isName (k + 1) I P name) ?_
  refine r_ifb_ne (d := mX2_tellName) (pc := 4) (tgt := 9) dX2_tellName_4 (by decide) (fun h4 => ?_) (fun h4 => ?_)
  · refine r_aload_n (d := mX2_tellName) (pc := 9) (i := 0) (v := b) dX2_tellName_9 rfl rfl ?_
    refine r_getRs (d := mX2_tellName) (pc := 10) (a := b) (kd := 2) (j := 8) (x := b + 2) dX2_tellName_10 flRX2_40 hR.1.1 (by decide) (by decide) rfl hR.2.1.2.1 ?_
    refine r_getRs (d := mX2_tellName) (pc := 13) (a := b + 2) (kd := 0) (j := 0) (x := b + 3) dX2_tellName_13 flRX2_111 hR.2.2.1.1 (by decide) (by decide) rfl hR.2.2.1.2.2.2.1 ?_
    refine r_iload_n (d := mX2_tellName) (pc := 16) (i := 1) (v := name) dX2_tellName_16 rfl rfl ?_
    refine r_ialds (d := mX2_tellName) (pc := 17) (a := b + 3) (x := (I (b + 3) name)) dX2_tellName_17 hR.2.2.1.2.1 (by omega) (by omega) (rfl) ?_
    refine r_istore_n (d := mX2_tellName) (pc := 18) (i := 3) (lv' := [(0, .inr (some b)), (1, .inl name), (2, .inl what), (3, .inl (I (b + 3) name))]) dX2_tellName_18 rfl (by decide) rfl rfl ?_
    refine r_aload_n (d := mX2_tellName) (pc := 19) (i := 0) (v := b) dX2_tellName_19 rfl rfl ?_
    refine r_getRs (d := mX2_tellName) (pc := 20) (a := b) (kd := 2) (j := 8) (x := b + 2) dX2_tellName_20 flRX2_40 hR.1.1 (by decide) (by decide) rfl hR.2.1.2.1 ?_
    refine r_getRs (d := mX2_tellName) (pc := 23) (a := b + 2) (kd := 0) (j := 1) (x := b + 4) dX2_tellName_23 flRX2_150 hR.2.2.1.1 (by decide) (by decide) rfl hR.2.2.1.2.2.2.2 ?_
    refine r_iload_n (d := mX2_tellName) (pc := 26) (i := 1) (v := name) dX2_tellName_26 rfl rfl ?_
    refine r_ialds (d := mX2_tellName) (pc := 27) (a := b + 4) (x := (I (b + 4) name)) dX2_tellName_27 hR.2.2.1.2.2.1 (by omega) (by omega) (rfl) ?_
    refine r_istore (d := mX2_tellName) (pc := 28) (i := 4) (lv' := [(0, .inr (some b)), (1, .inl name), (2, .inl what), (3, .inl (I (b + 3) name)), (4, .inl (I (b + 4) name))]) dX2_tellName_28 (by decide) rfl rfl ?_
    refine r_iload_n (d := mX2_tellName) (pc := 30) (i := 3) (v := (I (b + 3) name)) dX2_tellName_30 rfl rfl ?_
    refine r_iconst (d := mX2_tellName) (pc := 31) (n := (-1)) dX2_tellName_31 ?_
    refine r_icmp_ne (d := mX2_tellName) (pc := 32) (tgt := 40) dX2_tellName_32 (by decide) (fun h32 => ?_) (fun h32 => ?_)
    · refine r_aload_n (d := mX2_tellName) (pc := 40) (i := 0) (v := b) dX2_tellName_40 rfl rfl ?_
      refine r_getRs (d := mX2_tellName) (pc := 41) (a := b) (kd := 2) (j := 9) (x := b + 5) dX2_tellName_41 flRX2_47 hR.1.1 (by decide) (by decide) rfl hR.2.1.2.2.1 ?_
      refine r_iload_n (d := mX2_tellName) (pc := 44) (i := 3) (v := (I (b + 3) name)) dX2_tellName_44 rfl rfl ?_
      refine r_cV1 (d := mX2_tellName) (pc := 45) (dj := mX4_valueOn) (a := b + 5) (kd := 4) dX2_tellName_45 mlRX2_125 inX4_valueOn selX4_valueOn rfl hR.2.2.2.1.1 (by decide) okX4_valueOn (by decide) rfl (Nat.le_of_ble_eq_true rfl) (by decide) (by decide) (Fn_X4_valueOn (k + 2) I P (b + 5) (b + 6) (b + 7) (b + 8) hR.2.2.2.1  (I (b + 3) name)) ?_
      refine r_istore (d := mX2_tellName) (pc := 48) (i := 5) (lv' := [(0, .inr (some b)), (1, .inl name), (2, .inl what), (3, .inl (I (b + 3) name)), (4, .inl (I (b + 4) name)), (5, .inl (vOn (I (b + 6)) (I (b + 3) name)))]) dX2_tellName_48 (by decide) rfl rfl ?_
      have hz0 : True := trivial
      refine r_iload_n (d := mX2_tellName) (pc := 50) (i := 2) (v := what) dX2_tellName_50 rfl rfl ?_
      by_cases hs51_0 : what = 0
      · rw [hs51_0]
        refine r_tableIn (d := mX2_tellName) (pc := 51) (tgt := 84) (off := 33) dX2_tellName_51 (by decide) (by decide) rfl (by decide) ?_
        refine r_aload_n (d := mX2_tellName) (pc := 84) (i := 0) (v := b) dX2_tellName_84 rfl rfl ?_
        refine r_iload_n (d := mX2_tellName) (pc := 85) (i := 1) (v := name) dX2_tellName_85 rfl rfl ?_
        refine r_cV1 (d := mX2_tellName) (pc := 86) (dj := mX2_hidesValue) (a := b) (kd := 2) dX2_tellName_86 mlRX2_205 inX2_hidesValue selX2_hidesValue rfl hR.1.1 (by decide) okX2_hidesValue (by decide) rfl (Nat.le_of_ble_eq_true rfl) (by decide) (by decide) (Fn_X2_hidesValue k I P b hR name (by omega) (by omega)) ?_
        refine r_ifb_eq (d := mX2_tellName) (pc := 89) (tgt := 97) dX2_tellName_89 (by decide) (fun h89 => ?_) (fun h89 => ?_)
        · refine r_iload (d := mX2_tellName) (pc := 97) (i := 5) (v := vOn (I (b + 6)) (I (b + 3) name)) dX2_tellName_97 rfl ?_
          exact r_iret (d := mX2_tellName) (pc := 99) dX2_tellName_99 rfl (rtI (by rw [tnV, if_neg (by omega), if_pos rfl]; (first | rw [if_pos h89] | rw [if_neg h89, tnX, if_pos h32] | rw [if_neg h89, tnX, if_neg h32])) (by rfl)) (by decide) (by decide)
        · refine r_bipush (d := mX2_tellName) (pc := 92) (n := (-4)) dX2_tellName_92 ?_
          refine r_goto (d := mX2_tellName) (pc := 94) (tgt := 99) dX2_tellName_94 (by decide) ?_
          exact r_iret (d := mX2_tellName) (pc := 99) dX2_tellName_99 rfl (rtI (by rw [tnV, if_neg (by omega), if_pos rfl]; (first | rw [if_pos h89] | rw [if_neg h89, tnX, if_pos h32] | rw [if_neg h89, tnX, if_neg h32])) (by rfl)) (by decide) (by decide)
      by_cases hs51_1 : what = 1
      · rw [hs51_1]
        refine r_tableIn (d := mX2_tellName) (pc := 51) (tgt := 100) (off := 49) dX2_tellName_51 (by decide) (by decide) rfl (by decide) ?_
        refine r_iload_n (d := mX2_tellName) (pc := 100) (i := 3) (v := (I (b + 3) name)) dX2_tellName_100 rfl rfl ?_
        refine r_cS1 (d := mX2_tellName) (pc := 101) (dj := mX2_found) dX2_tellName_101 mlRX2_208 staX2_found okX2_found (by decide) rfl (Nat.le_of_ble_eq_true rfl) (by decide) (by decide) (Fn_X2_found (k + 2) I P (I (b + 3) name)) ?_
        exact r_iret (d := mX2_tellName) (pc := 104) dX2_tellName_104 rfl (rtI (by first | (exfalso; omega) | (rw [tnV, if_neg (by omega)]; simp [tnX, *])) (by rfl)) (by decide) (by decide)
      by_cases hs51_2 : what = 2
      · rw [hs51_2]
        refine r_tableIn (d := mX2_tellName) (pc := 51) (tgt := 105) (off := 54) dX2_tellName_51 (by decide) (by decide) rfl (by decide) ?_
        refine r_iload (d := mX2_tellName) (pc := 105) (i := 4) (v := (I (b + 4) name)) dX2_tellName_105 rfl ?_
        exact r_iret (d := mX2_tellName) (pc := 107) dX2_tellName_107 rfl (rtI (by first | (exfalso; omega) | (rw [tnV, if_neg (by omega)]; simp [tnX, *])) (by rfl)) (by decide) (by decide)
      by_cases hs51_3 : what = 3
      · rw [hs51_3]
        refine r_tableIn (d := mX2_tellName) (pc := 51) (tgt := 108) (off := 57) dX2_tellName_51 (by decide) (by decide) rfl (by decide) ?_
        refine r_iload_n (d := mX2_tellName) (pc := 108) (i := 3) (v := (I (b + 3) name)) dX2_tellName_108 rfl rfl ?_
        refine r_iconst (d := mX2_tellName) (pc := 109) (n := (-1)) dX2_tellName_109 ?_
        refine r_icmp_ne (d := mX2_tellName) (pc := 110) (tgt := 118) dX2_tellName_110 (by decide) (fun h110 => ?_) (fun h110 => ?_)
        · refine r_aload_n (d := mX2_tellName) (pc := 118) (i := 0) (v := b) dX2_tellName_118 rfl rfl ?_
          refine r_getRs (d := mX2_tellName) (pc := 119) (a := b) (kd := 2) (j := 8) (x := b + 2) dX2_tellName_119 flRX2_40 hR.1.1 (by decide) (by decide) rfl hR.2.1.2.1 ?_
          refine r_iload_n (d := mX2_tellName) (pc := 122) (i := 3) (v := (I (b + 3) name)) dX2_tellName_122 rfl rfl ?_
          refine r_cV1 (d := mX2_tellName) (pc := 123) (dj := mX0_namesOn) (a := b + 2) (kd := 0) dX2_tellName_123 mlRX2_211 inX0_namesOn selX0_namesOn rfl hR.2.2.1.1 (by decide) okX0_namesOn (by decide) rfl (Nat.le_of_ble_eq_true rfl) (by decide) (by decide) (Fn_X0_namesOn (k + 2) I P (b + 2) (b + 3) (b + 4) hR.2.2.1  (I (b + 3) name)) ?_
          refine r_cS1 (d := mX2_tellName) (pc := 126) (dj := mJ6_bitCount_0f7a4) dX2_tellName_126 mlRX2_214 staJ6_bitCount_0f7a4 okJ6_bitCount_0f7a4 (by decide) rfl (Nat.le_of_ble_eq_true rfl) (by decide) (by decide) (Fn_bc (k + 2) I P (nmask (I (b + 3)) (I (b + 3) name) 8) ((nmask_256 _ _).1) ((nmask_256 _ _).2)) ?_
          exact r_iret (d := mX2_tellName) (pc := 129) dX2_tellName_129 rfl (rtI (by first | (exfalso; omega) | (rw [tnV, if_neg (by omega)]; simp [tnX, *])) (by rfl)) (by decide) (by decide)
        · refine r_bipush (d := mX2_tellName) (pc := 113) (n := (-4)) dX2_tellName_113 ?_
          refine r_goto (d := mX2_tellName) (pc := 115) (tgt := 129) dX2_tellName_115 (by decide) ?_
          exact r_iret (d := mX2_tellName) (pc := 129) dX2_tellName_129 rfl (rtI (by first | (exfalso; omega) | (rw [tnV, if_neg (by omega)]; simp [tnX, *])) (by rfl)) (by decide) (by decide)
      by_cases hs51_4 : what = 4
      · rw [hs51_4]
        refine r_tableIn (d := mX2_tellName) (pc := 51) (tgt := 130) (off := 79) dX2_tellName_51 (by decide) (by decide) rfl (by decide) ?_
        refine r_iload (d := mX2_tellName) (pc := 130) (i := 5) (v := vOn (I (b + 6)) (I (b + 3) name)) dX2_tellName_130 rfl ?_
        exact r_iret (d := mX2_tellName) (pc := 132) dX2_tellName_132 rfl (rtI (by first | (exfalso; omega) | (rw [tnV, if_neg (by omega)]; simp [tnX, *])) (by rfl)) (by decide) (by decide)
      refine r_tableOut (d := mX2_tellName) (pc := 51) (tgt := 133) dX2_tellName_51 (by omega) (by decide) ?_
      refine r_iconst (d := mX2_tellName) (pc := 133) (n := (-1)) dX2_tellName_133 ?_
      exact r_iret (d := mX2_tellName) (pc := 134) dX2_tellName_134 rfl (rtI (by rw [tnV, if_neg (by omega), if_neg (by omega), if_neg (by omega), if_neg (by omega), if_neg (by omega), if_neg (by omega)]) (by rfl)) (by decide) (by decide)
    · refine r_iload (d := mX2_tellName) (pc := 35) (i := 4) (v := (I (b + 4) name)) dX2_tellName_35 rfl ?_
      refine r_goto (d := mX2_tellName) (pc := 37) (tgt := 48) dX2_tellName_37 (by decide) ?_
      refine r_istore (d := mX2_tellName) (pc := 48) (i := 5) (lv' := [(0, .inr (some b)), (1, .inl name), (2, .inl what), (3, .inl (I (b + 3) name)), (4, .inl (I (b + 4) name)), (5, .inl (I (b + 4) name))]) dX2_tellName_48 (by decide) rfl rfl ?_
      have hz0 : True := trivial
      refine r_iload_n (d := mX2_tellName) (pc := 50) (i := 2) (v := what) dX2_tellName_50 rfl rfl ?_
      by_cases hs51_0 : what = 0
      · rw [hs51_0]
        refine r_tableIn (d := mX2_tellName) (pc := 51) (tgt := 84) (off := 33) dX2_tellName_51 (by decide) (by decide) rfl (by decide) ?_
        refine r_aload_n (d := mX2_tellName) (pc := 84) (i := 0) (v := b) dX2_tellName_84 rfl rfl ?_
        refine r_iload_n (d := mX2_tellName) (pc := 85) (i := 1) (v := name) dX2_tellName_85 rfl rfl ?_
        refine r_cV1 (d := mX2_tellName) (pc := 86) (dj := mX2_hidesValue) (a := b) (kd := 2) dX2_tellName_86 mlRX2_205 inX2_hidesValue selX2_hidesValue rfl hR.1.1 (by decide) okX2_hidesValue (by decide) rfl (Nat.le_of_ble_eq_true rfl) (by decide) (by decide) (Fn_X2_hidesValue k I P b hR name (by omega) (by omega)) ?_
        refine r_ifb_eq (d := mX2_tellName) (pc := 89) (tgt := 97) dX2_tellName_89 (by decide) (fun h89 => ?_) (fun h89 => ?_)
        · refine r_iload (d := mX2_tellName) (pc := 97) (i := 5) (v := (I (b + 4) name)) dX2_tellName_97 rfl ?_
          exact r_iret (d := mX2_tellName) (pc := 99) dX2_tellName_99 rfl (rtI (by rw [tnV, if_neg (by omega), if_pos rfl]; (first | rw [if_pos h89] | rw [if_neg h89, tnX, if_pos h32] | rw [if_neg h89, tnX, if_neg h32])) (by rfl)) (by decide) (by decide)
        · refine r_bipush (d := mX2_tellName) (pc := 92) (n := (-4)) dX2_tellName_92 ?_
          refine r_goto (d := mX2_tellName) (pc := 94) (tgt := 99) dX2_tellName_94 (by decide) ?_
          exact r_iret (d := mX2_tellName) (pc := 99) dX2_tellName_99 rfl (rtI (by rw [tnV, if_neg (by omega), if_pos rfl]; (first | rw [if_pos h89] | rw [if_neg h89, tnX, if_pos h32] | rw [if_neg h89, tnX, if_neg h32])) (by rfl)) (by decide) (by decide)
      by_cases hs51_1 : what = 1
      · rw [hs51_1]
        refine r_tableIn (d := mX2_tellName) (pc := 51) (tgt := 100) (off := 49) dX2_tellName_51 (by decide) (by decide) rfl (by decide) ?_
        refine r_iload_n (d := mX2_tellName) (pc := 100) (i := 3) (v := (I (b + 3) name)) dX2_tellName_100 rfl rfl ?_
        refine r_cS1 (d := mX2_tellName) (pc := 101) (dj := mX2_found) dX2_tellName_101 mlRX2_208 staX2_found okX2_found (by decide) rfl (Nat.le_of_ble_eq_true rfl) (by decide) (by decide) (Fn_X2_found (k + 2) I P (I (b + 3) name)) ?_
        exact r_iret (d := mX2_tellName) (pc := 104) dX2_tellName_104 rfl (rtI (by first | (exfalso; omega) | (rw [tnV, if_neg (by omega)]; simp [tnX, *])) (by rfl)) (by decide) (by decide)
      by_cases hs51_2 : what = 2
      · rw [hs51_2]
        refine r_tableIn (d := mX2_tellName) (pc := 51) (tgt := 105) (off := 54) dX2_tellName_51 (by decide) (by decide) rfl (by decide) ?_
        refine r_iload (d := mX2_tellName) (pc := 105) (i := 4) (v := (I (b + 4) name)) dX2_tellName_105 rfl ?_
        exact r_iret (d := mX2_tellName) (pc := 107) dX2_tellName_107 rfl (rtI (by first | (exfalso; omega) | (rw [tnV, if_neg (by omega)]; simp [tnX, *])) (by rfl)) (by decide) (by decide)
      by_cases hs51_3 : what = 3
      · rw [hs51_3]
        refine r_tableIn (d := mX2_tellName) (pc := 51) (tgt := 108) (off := 57) dX2_tellName_51 (by decide) (by decide) rfl (by decide) ?_
        refine r_iload_n (d := mX2_tellName) (pc := 108) (i := 3) (v := (I (b + 3) name)) dX2_tellName_108 rfl rfl ?_
        refine r_iconst (d := mX2_tellName) (pc := 109) (n := (-1)) dX2_tellName_109 ?_
        refine r_icmp_ne (d := mX2_tellName) (pc := 110) (tgt := 118) dX2_tellName_110 (by decide) (fun h110 => ?_) (fun h110 => ?_)
        · refine r_aload_n (d := mX2_tellName) (pc := 118) (i := 0) (v := b) dX2_tellName_118 rfl rfl ?_
          refine r_getRs (d := mX2_tellName) (pc := 119) (a := b) (kd := 2) (j := 8) (x := b + 2) dX2_tellName_119 flRX2_40 hR.1.1 (by decide) (by decide) rfl hR.2.1.2.1 ?_
          refine r_iload_n (d := mX2_tellName) (pc := 122) (i := 3) (v := (I (b + 3) name)) dX2_tellName_122 rfl rfl ?_
          refine r_cV1 (d := mX2_tellName) (pc := 123) (dj := mX0_namesOn) (a := b + 2) (kd := 0) dX2_tellName_123 mlRX2_211 inX0_namesOn selX0_namesOn rfl hR.2.2.1.1 (by decide) okX0_namesOn (by decide) rfl (Nat.le_of_ble_eq_true rfl) (by decide) (by decide) (Fn_X0_namesOn (k + 2) I P (b + 2) (b + 3) (b + 4) hR.2.2.1  (I (b + 3) name)) ?_
          refine r_cS1 (d := mX2_tellName) (pc := 126) (dj := mJ6_bitCount_0f7a4) dX2_tellName_126 mlRX2_214 staJ6_bitCount_0f7a4 okJ6_bitCount_0f7a4 (by decide) rfl (Nat.le_of_ble_eq_true rfl) (by decide) (by decide) (Fn_bc (k + 2) I P (nmask (I (b + 3)) (I (b + 3) name) 8) ((nmask_256 _ _).1) ((nmask_256 _ _).2)) ?_
          exact r_iret (d := mX2_tellName) (pc := 129) dX2_tellName_129 rfl (rtI (by first | (exfalso; omega) | (rw [tnV, if_neg (by omega)]; simp [tnX, *])) (by rfl)) (by decide) (by decide)
        · refine r_bipush (d := mX2_tellName) (pc := 113) (n := (-4)) dX2_tellName_113 ?_
          refine r_goto (d := mX2_tellName) (pc := 115) (tgt := 129) dX2_tellName_115 (by decide) ?_
          exact r_iret (d := mX2_tellName) (pc := 129) dX2_tellName_129 rfl (rtI (by first | (exfalso; omega) | (rw [tnV, if_neg (by omega)]; simp [tnX, *])) (by rfl)) (by decide) (by decide)
      by_cases hs51_4 : what = 4
      · rw [hs51_4]
        refine r_tableIn (d := mX2_tellName) (pc := 51) (tgt := 130) (off := 79) dX2_tellName_51 (by decide) (by decide) rfl (by decide) ?_
        refine r_iload (d := mX2_tellName) (pc := 130) (i := 5) (v := (I (b + 4) name)) dX2_tellName_130 rfl ?_
        exact r_iret (d := mX2_tellName) (pc := 132) dX2_tellName_132 rfl (rtI (by first | (exfalso; omega) | (rw [tnV, if_neg (by omega)]; simp [tnX, *])) (by rfl)) (by decide) (by decide)
      refine r_tableOut (d := mX2_tellName) (pc := 51) (tgt := 133) dX2_tellName_51 (by omega) (by decide) ?_
      refine r_iconst (d := mX2_tellName) (pc := 133) (n := (-1)) dX2_tellName_133 ?_
      exact r_iret (d := mX2_tellName) (pc := 134) dX2_tellName_134 rfl (rtI (by rw [tnV, if_neg (by omega), if_neg (by omega), if_neg (by omega), if_neg (by omega), if_neg (by omega), if_neg (by omega)]) (by rfl)) (by decide) (by decide)
  · refine r_iconst (d := mX2_tellName) (pc := 7) (n := (-1)) dX2_tellName_7 ?_
    exact r_iret (d := mX2_tellName) (pc := 8) dX2_tellName_8 rfl (rtI (by rw [tnV, if_pos h4]) (by rfl)) (by decide) (by decide)
set_option maxRecDepth 20000 in
set_option maxHeartbeats 4000000 in
theorem Fn_X2_tellChair (k : Nat) (I : mIt) (P : mPt) (b : Nat) (hR : isRm P b) (n : Nat) (hn : I (b + 9) 0 = n) (hn6 : n ≤ 6) (mc : Nat) (hm : I b 6 = mc) (hm3 : mc ≤ 3) (nc : Nat) (hc : I b 0 = nc) (hc7 : nc ≤ 7) (ch what : Int) : WP (k + 2) mX2_tellChair none (0, 0) (Rt (some (.inl (tcV I b n mc nc ch what))) (lay0, I, P)) 0 [(0, .inr (some b)), (1, .inl ch), (2, .inl what)] [] (lay0, I, P) := by
  refine r_iload_n (d := mX2_tellChair) (pc := 0) (i := 1) (v := ch) dX2_tellChair_0 rfl rfl ?_
  refine r_iconst (d := mX2_tellChair) (pc := 1) (n := 0) dX2_tellChair_1 ?_
  refine r_aload_n (d := mX2_tellChair) (pc := 2) (i := 0) (v := b) dX2_tellChair_2 rfl rfl ?_
  refine r_getIs (d := mX2_tellChair) (pc := 3) (a := b) (kd := 2) (j := 0) (x := (nc : Int)) dX2_tellChair_3 flRX2_9 hR.1.1 (by decide) (by decide) rfl (hc) ?_
  refine r_iconst (d := mX2_tellChair) (pc := 6) (n := 1) dX2_tellChair_6 ?_
  refine r_isub (d := mX2_tellChair) (pc := 7) dX2_tellChair_7 ?_
  refine r_cSN3 (d := mX2_tellChair) (pc := 8) (dj := mX5_within) dX2_tellChair_8 mnRX2_97 staX5_within okX5_within (by decide) rfl (Nat.le_of_ble_eq_true rfl) (by decide) (by decide) (Fn_X5_within (k + 1) I P ch 0 ((nc : Int) - 1)) ?_
  refine r_ifb_eq (d := mX2_tellChair) (pc := 11) (tgt := 23) dX2_tellChair_11 (by decide) (fun h11 => ?_) (fun h11 => ?_)
  · refine r_iconst (d := mX2_tellChair) (pc := 23) (n := (-1)) dX2_tellChair_23 ?_
    exact r_iret (d := mX2_tellChair) (pc := 24) dX2_tellChair_24 rfl (rtI (by rw [tcV, if_pos (by omega)]) (by rfl)) (by decide) (by decide)
  · refine r_iload_n (d := mX2_tellChair) (pc := 14) (i := 2) (v := what) dX2_tellChair_14 rfl rfl ?_
    refine r_iconst (d := mX2_tellChair) (pc := 15) (n := 0) dX2_tellChair_15 ?_
    refine r_iconst (d := mX2_tellChair) (pc := 16) (n := 5) dX2_tellChair_16 ?_
    refine r_cSN3 (d := mX2_tellChair) (pc := 17) (dj := mX5_within) dX2_tellChair_17 mnRX2_97 staX5_within okX5_within (by decide) rfl (Nat.le_of_ble_eq_true rfl) (by decide) (by decide) (Fn_X5_within (k + 1) I P what 0 5) ?_
    refine r_ifb_ne (d := mX2_tellChair) (pc := 20) (tgt := 25) dX2_tellChair_20 (by decide) (fun h20 => ?_) (fun h20 => ?_)
    · refine r_aload_n (d := mX2_tellChair) (pc := 25) (i := 0) (v := b) dX2_tellChair_25 rfl rfl ?_
      refine r_cV0 (d := mX2_tellChair) (pc := 26) (dj := mX2_pinnedChairs) (a := b) (kd := 2) dX2_tellChair_26 mlRX2_153 inX2_pinnedChairs selX2_pinnedChairs rfl hR.1.1 (by decide) okX2_pinnedChairs (by decide) rfl (Nat.le_of_ble_eq_true rfl) (by decide) (by decide) (Fn_X2_pinnedChairs (k + 1) I P b hR n (hn) hn6 mc (hm) hm3) ?_
      refine r_istore_n (d := mX2_tellChair) (pc := 29) (i := 3) (lv' := [(0, .inr (some b)), (1, .inl ch), (2, .inl what), (3, .inl (pinA I b n mc))]) dX2_tellChair_29 rfl (by decide) rfl rfl ?_
      refine r_aload_n (d := mX2_tellChair) (pc := 30) (i := 0) (v := b) dX2_tellChair_30 rfl rfl ?_
      refine r_getRs (d := mX2_tellChair) (pc := 31) (a := b) (kd := 2) (j := 8) (x := b + 2) dX2_tellChair_31 flRX2_40 hR.1.1 (by decide) (by decide) rfl hR.2.1.2.1 ?_
      refine r_cV0 (d := mX2_tellChair) (pc := 34) (dj := mX0_chairSet) (a := b + 2) (kd := 0) dX2_tellChair_34 mlRX2_156 inX0_chairSet selX0_chairSet rfl hR.2.2.1.1 (by decide) okX0_chairSet (by decide) rfl (Nat.le_of_ble_eq_true rfl) (by decide) (by decide) (Fn_X0_chairSet (k + 1) I P (b + 2) (b + 3) (b + 4) hR.2.2.1  ) ?_
      refine r_istore (d := mX2_tellChair) (pc := 37) (i := 4) (lv' := [(0, .inr (some b)), (1, .inl ch), (2, .inl what), (3, .inl (pinA I b n mc)), (4, .inl (cset (I (b + 3)) 8))]) dX2_tellChair_37 (by decide) rfl rfl ?_
      refine r_iload_n (d := mX2_tellChair) (pc := 39) (i := 3) (v := pinA I b n mc) dX2_tellChair_39 rfl rfl ?_
      refine r_iload (d := mX2_tellChair) (pc := 40) (i := 4) (v := cset (I (b + 3)) 8) dX2_tellChair_40 rfl ?_
      refine r_ior (d := mX2_tellChair) (pc := 42) dX2_tellChair_42 ?_
      change WP _ _ _ _ _ _ _ [.inl (tkn I b n mc)] _
      refine r_iload_n (d := mX2_tellChair) (pc := 43) (i := 1) (v := ch) dX2_tellChair_43 rfl rfl ?_
      refine r_ishr (d := mX2_tellChair) (pc := 44) dX2_tellChair_44 ?_
      refine r_iconst (d := mX2_tellChair) (pc := 45) (n := 1) dX2_tellChair_45 ?_
      refine r_iand (d := mX2_tellChair) (pc := 46) dX2_tellChair_46 ?_
      refine r_if_ne (d := mX2_tellChair) (pc := 47) (tgt := 53) dX2_tellChair_47 (by decide) (fun h47 => ?_) (fun h47 => ?_)
      · refine r_iload_n (d := mX2_tellChair) (pc := 53) (i := 2) (v := what) dX2_tellChair_53 rfl rfl ?_
        by_cases hs54_0 : what = 0
        · rw [hs54_0]
          refine r_tableIn (d := mX2_tellChair) (pc := 54) (tgt := 88) (off := 34) dX2_tellChair_54 (by decide) (by decide) rfl (by decide) ?_
          refine r_aload_n (d := mX2_tellChair) (pc := 88) (i := 0) (v := b) dX2_tellChair_88 rfl rfl ?_
          refine r_iload_n (d := mX2_tellChair) (pc := 89) (i := 1) (v := ch) dX2_tellChair_89 rfl rfl ?_
          refine r_cV1 (d := mX2_tellChair) (pc := 90) (dj := mX2_isKnown) (a := b) (kd := 2) dX2_tellChair_90 mlRX2_219 inX2_isKnown selX2_isKnown rfl hR.1.1 (by decide) okX2_isKnown (by decide) rfl (Nat.le_of_ble_eq_true rfl) (by decide) (by decide) (Fn_X2_isKnown k I P b hR  ch) ?_
          refine r_ifb_eq (d := mX2_tellChair) (pc := 93) (tgt := 107) dX2_tellChair_93 (by decide) (fun h93 => ?_) (fun h93 => ?_)
          · refine r_bipush (d := mX2_tellChair) (pc := 107) (n := (-4)) dX2_tellChair_107 ?_
            exact r_iret (d := mX2_tellChair) (pc := 109) dX2_tellChair_109 rfl (rtI (by rw [tcV, if_neg (by omega), if_neg h47]; simp [*]) (by rfl)) (by decide) (by decide)
          · refine r_aload_n (d := mX2_tellChair) (pc := 96) (i := 0) (v := b) dX2_tellChair_96 rfl rfl ?_
            refine r_getRs (d := mX2_tellChair) (pc := 97) (a := b) (kd := 2) (j := 9) (x := b + 5) dX2_tellChair_97 flRX2_47 hR.1.1 (by decide) (by decide) rfl hR.2.1.2.2.1 ?_
            refine r_iload_n (d := mX2_tellChair) (pc := 100) (i := 1) (v := ch) dX2_tellChair_100 rfl rfl ?_
            refine r_cV1 (d := mX2_tellChair) (pc := 101) (dj := mX4_valueOn) (a := b + 5) (kd := 4) dX2_tellChair_101 mlRX2_125 inX4_valueOn selX4_valueOn rfl hR.2.2.2.1.1 (by decide) okX4_valueOn (by decide) rfl (Nat.le_of_ble_eq_true rfl) (by decide) (by decide) (Fn_X4_valueOn (k + 1) I P (b + 5) (b + 6) (b + 7) (b + 8) hR.2.2.2.1  ch) ?_
            refine r_goto (d := mX2_tellChair) (pc := 104) (tgt := 109) dX2_tellChair_104 (by decide) ?_
            exact r_iret (d := mX2_tellChair) (pc := 109) dX2_tellChair_109 rfl (rtI (by rw [tcV, if_neg (by omega), if_neg h47]; simp [*]) (by rfl)) (by decide) (by decide)
        by_cases hs54_1 : what = 1
        · rw [hs54_1]
          refine r_tableIn (d := mX2_tellChair) (pc := 54) (tgt := 110) (off := 56) dX2_tellChair_54 (by decide) (by decide) rfl (by decide) ?_
          refine r_aload_n (d := mX2_tellChair) (pc := 110) (i := 0) (v := b) dX2_tellChair_110 rfl rfl ?_
          refine r_getRs (d := mX2_tellChair) (pc := 111) (a := b) (kd := 2) (j := 8) (x := b + 2) dX2_tellChair_111 flRX2_40 hR.1.1 (by decide) (by decide) rfl hR.2.1.2.1 ?_
          refine r_iload_n (d := mX2_tellChair) (pc := 114) (i := 1) (v := ch) dX2_tellChair_114 rfl rfl ?_
          refine r_cV1 (d := mX2_tellChair) (pc := 115) (dj := mX0_namesOn) (a := b + 2) (kd := 0) dX2_tellChair_115 mlRX2_211 inX0_namesOn selX0_namesOn rfl hR.2.2.1.1 (by decide) okX0_namesOn (by decide) rfl (Nat.le_of_ble_eq_true rfl) (by decide) (by decide) (Fn_X0_namesOn (k + 1) I P (b + 2) (b + 3) (b + 4) hR.2.2.1  ch) ?_
          exact r_iret (d := mX2_tellChair) (pc := 118) dX2_tellChair_118 rfl (rtI (by rw [tcV, if_neg (by omega), if_neg h47]; simp [*]) (by rfl)) (by decide) (by decide)
        by_cases hs54_2 : what = 2
        · rw [hs54_2]
          refine r_tableIn (d := mX2_tellChair) (pc := 54) (tgt := 119) (off := 65) dX2_tellChair_54 (by decide) (by decide) rfl (by decide) ?_
          refine r_aload_n (d := mX2_tellChair) (pc := 119) (i := 0) (v := b) dX2_tellChair_119 rfl rfl ?_
          refine r_iload_n (d := mX2_tellChair) (pc := 120) (i := 1) (v := ch) dX2_tellChair_120 rfl rfl ?_
          refine r_cV1 (d := mX2_tellChair) (pc := 121) (dj := mX2_marksOn) (a := b) (kd := 2) dX2_tellChair_121 mlRX2_222 inX2_marksOn selX2_marksOn rfl hR.1.1 (by decide) okX2_marksOn (by decide) rfl (Nat.le_of_ble_eq_true rfl) (by decide) (by decide) (Fn_X2_marksOn k I P b hR mc hm hm3 ch) ?_
          exact r_iret (d := mX2_tellChair) (pc := 124) dX2_tellChair_124 rfl (rtI (by rw [tcV, if_neg (by omega), if_neg h47]; simp [*]) (by rfl)) (by decide) (by decide)
        by_cases hs54_3 : what = 3
        · rw [hs54_3]
          refine r_tableIn (d := mX2_tellChair) (pc := 54) (tgt := 125) (off := 71) dX2_tellChair_54 (by decide) (by decide) rfl (by decide) ?_
          refine r_aload_n (d := mX2_tellChair) (pc := 125) (i := 0) (v := b) dX2_tellChair_125 rfl rfl ?_
          refine r_getRs (d := mX2_tellChair) (pc := 126) (a := b) (kd := 2) (j := 10) (x := b + 9) dX2_tellChair_126 flRX2_54 hR.1.1 (by decide) (by decide) rfl hR.2.1.2.2.2.1 ?_
          refine r_iload_n (d := mX2_tellChair) (pc := 129) (i := 1) (v := ch) dX2_tellChair_129 rfl rfl ?_
          refine r_cV1 (d := mX2_tellChair) (pc := 130) (dj := mX1_readersOf) (a := b + 9) (kd := 1) dX2_tellChair_130 mlRX2_225 inX1_readersOf selX1_readersOf rfl hR.2.2.2.2.1.1 (by decide) okX1_readersOf (by decide) rfl (Nat.le_of_ble_eq_true rfl) (by decide) (by decide) (Fn_X1_readersOf (k + 1) I P (b + 9) (b + 10) (b + 11) (b + 12) (b + 13) (b + 14) hR.2.2.2.2.1 n hn hn6 ch) ?_
          exact r_iret (d := mX2_tellChair) (pc := 133) dX2_tellChair_133 rfl (rtI (by rw [tcV, if_neg (by omega), if_neg h47]; simp [*]) (by rfl)) (by decide) (by decide)
        by_cases hs54_4 : what = 4
        · rw [hs54_4]
          refine r_tableIn (d := mX2_tellChair) (pc := 54) (tgt := 134) (off := 80) dX2_tellChair_54 (by decide) (by decide) rfl (by decide) ?_
          refine r_aload_n (d := mX2_tellChair) (pc := 134) (i := 0) (v := b) dX2_tellChair_134 rfl rfl ?_
          refine r_getRs (d := mX2_tellChair) (pc := 135) (a := b) (kd := 2) (j := 10) (x := b + 9) dX2_tellChair_135 flRX2_54 hR.1.1 (by decide) (by decide) rfl hR.2.1.2.2.2.1 ?_
          refine r_iload_n (d := mX2_tellChair) (pc := 138) (i := 1) (v := ch) dX2_tellChair_138 rfl rfl ?_
          refine r_cV1 (d := mX2_tellChair) (pc := 139) (dj := mX1_makeFor) (a := b + 9) (kd := 1) dX2_tellChair_139 mlRX2_228 inX1_makeFor selX1_makeFor rfl hR.2.2.2.2.1.1 (by decide) okX1_makeFor (by decide) rfl (Nat.le_of_ble_eq_true rfl) (by decide) (by decide) (Fn_X1_makeFor (k + 1) I P (b + 9) (b + 10) (b + 11) (b + 12) (b + 13) (b + 14) hR.2.2.2.2.1 n hn hn6 ch) ?_
          refine r_ifb_eq (d := mX2_tellChair) (pc := 142) (tgt := 149) dX2_tellChair_142 (by decide) (fun h142 => ?_) (fun h142 => ?_)
          · refine r_iconst (d := mX2_tellChair) (pc := 149) (n := 0) dX2_tellChair_149 ?_
            exact r_iret (d := mX2_tellChair) (pc := 150) dX2_tellChair_150 rfl (rtI (by rw [tcV, if_neg (by omega), if_neg h47]; simp [*]) (by rfl)) (by decide) (by decide)
          · refine r_iconst (d := mX2_tellChair) (pc := 145) (n := 1) dX2_tellChair_145 ?_
            refine r_goto (d := mX2_tellChair) (pc := 146) (tgt := 150) dX2_tellChair_146 (by decide) ?_
            exact r_iret (d := mX2_tellChair) (pc := 150) dX2_tellChair_150 rfl (rtI (by rw [tcV, if_neg (by omega), if_neg h47]; simp [*]) (by rfl)) (by decide) (by decide)
        refine r_tableOut (d := mX2_tellChair) (pc := 54) (tgt := 151) dX2_tellChair_54 (by omega) (by decide) ?_
        refine r_aload_n (d := mX2_tellChair) (pc := 151) (i := 0) (v := b) dX2_tellChair_151 rfl rfl ?_
        refine r_iload (d := mX2_tellChair) (pc := 152) (i := 4) (v := cset (I (b + 3)) 8) dX2_tellChair_152 rfl ?_
        refine r_iload_n (d := mX2_tellChair) (pc := 154) (i := 3) (v := pinA I b n mc) dX2_tellChair_154 rfl rfl ?_
        refine r_iconst (d := mX2_tellChair) (pc := 155) (n := (-1)) dX2_tellChair_155 ?_
        refine r_ixor (d := mX2_tellChair) (pc := 156) dX2_tellChair_156 ?_
        refine r_iand (d := mX2_tellChair) (pc := 157) dX2_tellChair_157 ?_
        refine r_cV1 (d := mX2_tellChair) (pc := 158) (dj := mX2_longestUnused) (a := b) (kd := 2) dX2_tellChair_158 mlRX2_165 inX2_longestUnused selX2_longestUnused rfl hR.1.1 (by decide) okX2_longestUnused (by decide) rfl (Nat.le_of_ble_eq_true rfl) (by decide) (by decide) (Fn_X2_longestUnused (k + 1) I P b hR nc (hc) hc7 (bAnd (cset (I (b + 3)) 8) (bXor (pinA I b n mc) (-1)))) ?_
        refine r_iload_n (d := mX2_tellChair) (pc := 161) (i := 1) (v := ch) dX2_tellChair_161 rfl rfl ?_
        refine r_icmp_ne (d := mX2_tellChair) (pc := 162) (tgt := 169) dX2_tellChair_162 (by decide) (fun h162 => ?_) (fun h162 => ?_)
        · refine r_iconst (d := mX2_tellChair) (pc := 169) (n := 0) dX2_tellChair_169 ?_
          exact r_iret (d := mX2_tellChair) (pc := 170) dX2_tellChair_170 rfl (rtI (by rw [tcV, if_neg (by omega), if_neg h47, if_neg (by omega), if_neg (by omega), if_neg (by omega), if_neg (by omega), if_neg (by omega)]; simp [*]) (by rfl)) (by decide) (by decide)
        · refine r_iconst (d := mX2_tellChair) (pc := 165) (n := 1) dX2_tellChair_165 ?_
          refine r_goto (d := mX2_tellChair) (pc := 166) (tgt := 170) dX2_tellChair_166 (by decide) ?_
          exact r_iret (d := mX2_tellChair) (pc := 170) dX2_tellChair_170 rfl (rtI (by rw [tcV, if_neg (by omega), if_neg h47, if_neg (by omega), if_neg (by omega), if_neg (by omega), if_neg (by omega), if_neg (by omega)]; simp [*]) (by rfl)) (by decide) (by decide)
      · refine r_bipush (d := mX2_tellChair) (pc := 50) (n := (-4)) dX2_tellChair_50 ?_
        exact r_iret (d := mX2_tellChair) (pc := 52) dX2_tellChair_52 rfl (rtI (by rw [tcV, if_neg (by omega), if_pos h47]) (by rfl)) (by decide) (by decide)
    · refine r_iconst (d := mX2_tellChair) (pc := 23) (n := (-1)) dX2_tellChair_23 ?_
      exact r_iret (d := mX2_tellChair) (pc := 24) dX2_tellChair_24 rfl (rtI (by rw [tcV, if_pos (by omega)]) (by rfl)) (by decide) (by decide)
set_option maxRecDepth 20000 in
set_option maxHeartbeats 4000000 in
theorem Fn_X2_tellOrder (k : Nat) (I : mIt) (P : mPt) (b : Nat) (hR : isRm P b) (ht : 0 ≤ I b 1 ∧ I b 1 ≤ 60000) (hk : ∀ c, -2000000 ≤ kOf (I (b + 7)) c ∧ kOf (I (b + 7)) c ≤ 2000000) (ix what : Int) : WP (k + 2) mX2_tellOrder none (0, 0) (Rt (some (.inl (toV I b ix what))) (lay0, I, P)) 0 [(0, .inr (some b)), (1, .inl ix), (2, .inl what)] [] (lay0, I, P) := by
  refine r_aload_n (d := mX2_tellOrder) (pc := 0) (i := 0) (v := b) dX2_tellOrder_0 rfl rfl ?_
  refine r_getRs (d := mX2_tellOrder) (pc := 1) (a := b) (kd := 2) (j := 10) (x := b + 9) dX2_tellOrder_1 flRX2_54 hR.1.1 (by decide) (by decide) rfl hR.2.1.2.2.2.1 ?_
  refine r_iload_n (d := mX2_tellOrder) (pc := 4) (i := 1) (v := ix) dX2_tellOrder_4 rfl rfl ?_
  refine r_cV1 (d := mX2_tellOrder) (pc := 5) (dj := mX1_isOne) (a := b + 9) (kd := 1) dX2_tellOrder_5 mlRX2_231 inX1_isOne selX1_isOne rfl hR.2.2.2.2.1.1 (by decide) okX1_isOne (by decide) rfl (Nat.le_of_ble_eq_true rfl) (by decide) (by decide) (Fn_X1_isOne (k + 1) I P (b + 9) (b + 10) (b + 11) (b + 12) (b + 13) (b + 14) hR.2.2.2.2.1  ix) ?_
  refine r_ifb_ne (d := mX2_tellOrder) (pc := 8) (tgt := 13) dX2_tellOrder_8 (by decide) (fun h8 => ?_) (fun h8 => ?_)
  · refine r_iload_n (d := mX2_tellOrder) (pc := 13) (i := 2) (v := what) dX2_tellOrder_13 rfl rfl ?_
    by_cases hs14_0 : what = 0
    · rw [hs14_0]
      refine r_tableIn (d := mX2_tellOrder) (pc := 14) (tgt := 56) (off := 42) dX2_tellOrder_14 (by decide) (by decide) rfl (by decide) ?_
      refine r_aload_n (d := mX2_tellOrder) (pc := 56) (i := 0) (v := b) dX2_tellOrder_56 rfl rfl ?_
      refine r_getRs (d := mX2_tellOrder) (pc := 57) (a := b) (kd := 2) (j := 10) (x := b + 9) dX2_tellOrder_57 flRX2_54 hR.1.1 (by decide) (by decide) rfl hR.2.1.2.2.2.1 ?_
      refine r_getRs (d := mX2_tellOrder) (pc := 60) (a := b + 9) (kd := 1) (j := 1) (x := b + 10) dX2_tellOrder_60 flRX2_199 hR.2.2.2.2.1.1 (by decide) (by decide) rfl hR.2.2.2.2.1.2.2.2.2.2.2.1 ?_
      refine r_iload_n (d := mX2_tellOrder) (pc := 63) (i := 1) (v := ix) dX2_tellOrder_63 rfl rfl ?_
      refine r_ialds (d := mX2_tellOrder) (pc := 64) (a := b + 10) (x := (I (b + 10) ix)) dX2_tellOrder_64 hR.2.2.2.2.1.2.1 (by omega) (by omega) (rfl) ?_
      exact r_iret (d := mX2_tellOrder) (pc := 65) dX2_tellOrder_65 rfl (rtI (by rw [toV, if_neg (by omega)]; simp [*]) (by rfl)) (by decide) (by decide)
    by_cases hs14_1 : what = 1
    · rw [hs14_1]
      refine r_tableIn (d := mX2_tellOrder) (pc := 14) (tgt := 66) (off := 52) dX2_tellOrder_14 (by decide) (by decide) rfl (by decide) ?_
      refine r_aload_n (d := mX2_tellOrder) (pc := 66) (i := 0) (v := b) dX2_tellOrder_66 rfl rfl ?_
      refine r_getRs (d := mX2_tellOrder) (pc := 67) (a := b) (kd := 2) (j := 10) (x := b + 9) dX2_tellOrder_67 flRX2_54 hR.1.1 (by decide) (by decide) rfl hR.2.1.2.2.2.1 ?_
      refine r_getRs (d := mX2_tellOrder) (pc := 70) (a := b + 9) (kd := 1) (j := 2) (x := b + 11) dX2_tellOrder_70 flRX2_186 hR.2.2.2.2.1.1 (by decide) (by decide) rfl hR.2.2.2.2.1.2.2.2.2.2.2.2.1 ?_
      refine r_iload_n (d := mX2_tellOrder) (pc := 73) (i := 1) (v := ix) dX2_tellOrder_73 rfl rfl ?_
      refine r_ialds (d := mX2_tellOrder) (pc := 74) (a := b + 11) (x := (I (b + 11) ix)) dX2_tellOrder_74 hR.2.2.2.2.1.2.2.1 (by omega) (by omega) (rfl) ?_
      exact r_iret (d := mX2_tellOrder) (pc := 75) dX2_tellOrder_75 rfl (rtI (by rw [toV, if_neg (by omega)]; simp [*]) (by rfl)) (by decide) (by decide)
    by_cases hs14_2 : what = 2
    · rw [hs14_2]
      refine r_tableIn (d := mX2_tellOrder) (pc := 14) (tgt := 76) (off := 62) dX2_tellOrder_14 (by decide) (by decide) rfl (by decide) ?_
      refine r_aload_n (d := mX2_tellOrder) (pc := 76) (i := 0) (v := b) dX2_tellOrder_76 rfl rfl ?_
      refine r_getRs (d := mX2_tellOrder) (pc := 77) (a := b) (kd := 2) (j := 10) (x := b + 9) dX2_tellOrder_77 flRX2_54 hR.1.1 (by decide) (by decide) rfl hR.2.1.2.2.2.1 ?_
      refine r_getRs (d := mX2_tellOrder) (pc := 80) (a := b + 9) (kd := 1) (j := 3) (x := b + 12) dX2_tellOrder_80 flRX2_193 hR.2.2.2.2.1.1 (by decide) (by decide) rfl hR.2.2.2.2.1.2.2.2.2.2.2.2.2.1 ?_
      refine r_iload_n (d := mX2_tellOrder) (pc := 83) (i := 1) (v := ix) dX2_tellOrder_83 rfl rfl ?_
      refine r_ialds (d := mX2_tellOrder) (pc := 84) (a := b + 12) (x := (I (b + 12) ix)) dX2_tellOrder_84 hR.2.2.2.2.1.2.2.2.1 (by omega) (by omega) (rfl) ?_
      exact r_iret (d := mX2_tellOrder) (pc := 85) dX2_tellOrder_85 rfl (rtI (by rw [toV, if_neg (by omega)]; simp [*]) (by rfl)) (by decide) (by decide)
    by_cases hs14_3 : what = 3
    · rw [hs14_3]
      refine r_tableIn (d := mX2_tellOrder) (pc := 14) (tgt := 86) (off := 72) dX2_tellOrder_14 (by decide) (by decide) rfl (by decide) ?_
      refine r_aload_n (d := mX2_tellOrder) (pc := 86) (i := 0) (v := b) dX2_tellOrder_86 rfl rfl ?_
      refine r_getRs (d := mX2_tellOrder) (pc := 87) (a := b) (kd := 2) (j := 10) (x := b + 9) dX2_tellOrder_87 flRX2_54 hR.1.1 (by decide) (by decide) rfl hR.2.1.2.2.2.1 ?_
      refine r_getRs (d := mX2_tellOrder) (pc := 90) (a := b + 9) (kd := 1) (j := 4) (x := b + 13) dX2_tellOrder_90 flRX2_196 hR.2.2.2.2.1.1 (by decide) (by decide) rfl hR.2.2.2.2.1.2.2.2.2.2.2.2.2.2.1 ?_
      refine r_iload_n (d := mX2_tellOrder) (pc := 93) (i := 1) (v := ix) dX2_tellOrder_93 rfl rfl ?_
      refine r_ialds (d := mX2_tellOrder) (pc := 94) (a := b + 13) (x := (I (b + 13) ix)) dX2_tellOrder_94 hR.2.2.2.2.1.2.2.2.2.1 (by omega) (by omega) (rfl) ?_
      exact r_iret (d := mX2_tellOrder) (pc := 95) dX2_tellOrder_95 rfl (rtI (by rw [toV, if_neg (by omega)]; simp [*]) (by rfl)) (by decide) (by decide)
    by_cases hs14_4 : what = 4
    · rw [hs14_4]
      refine r_tableIn (d := mX2_tellOrder) (pc := 14) (tgt := 96) (off := 82) dX2_tellOrder_14 (by decide) (by decide) rfl (by decide) ?_
      refine r_aload_n (d := mX2_tellOrder) (pc := 96) (i := 0) (v := b) dX2_tellOrder_96 rfl rfl ?_
      refine r_iload_n (d := mX2_tellOrder) (pc := 97) (i := 1) (v := ix) dX2_tellOrder_97 rfl rfl ?_
      refine r_cV1 (d := mX2_tellOrder) (pc := 98) (dj := mX2_hasBegun) (a := b) (kd := 2) dX2_tellOrder_98 mlRX2_234 inX2_hasBegun selX2_hasBegun rfl hR.1.1 (by decide) okX2_hasBegun (by decide) rfl (Nat.le_of_ble_eq_true rfl) (by decide) (by decide) (Fn_X2_hasBegun k I P b hR  ix) ?_
      refine r_ifb_eq (d := mX2_tellOrder) (pc := 101) (tgt := 108) dX2_tellOrder_101 (by decide) (fun h101 => ?_) (fun h101 => ?_)
      · refine r_iconst (d := mX2_tellOrder) (pc := 108) (n := 0) dX2_tellOrder_108 ?_
        exact r_iret (d := mX2_tellOrder) (pc := 109) dX2_tellOrder_109 rfl (rtI (by rw [toV, if_neg (by omega)]; first | ((have hk9 : kOf (I (b + 7)) (I (b + 11) ix) = 1000000 := by omega); simp [hk9]; done) | ((have hk9 : kOf (I (b + 7)) (I (b + 11) ix) ≠ 1000000 := by omega); simp [hk9]; done)) (by rfl)) (by decide) (by decide)
      · refine r_iconst (d := mX2_tellOrder) (pc := 104) (n := 1) dX2_tellOrder_104 ?_
        refine r_goto (d := mX2_tellOrder) (pc := 105) (tgt := 109) dX2_tellOrder_105 (by decide) ?_
        exact r_iret (d := mX2_tellOrder) (pc := 109) dX2_tellOrder_109 rfl (rtI (by rw [toV, if_neg (by omega)]; first | ((have hk9 : kOf (I (b + 7)) (I (b + 11) ix) = 1000000 := by omega); simp [hk9]; done) | ((have hk9 : kOf (I (b + 7)) (I (b + 11) ix) ≠ 1000000 := by omega); simp [hk9]; done)) (by rfl)) (by decide) (by decide)
    by_cases hs14_5 : what = 5
    · rw [hs14_5]
      refine r_tableIn (d := mX2_tellOrder) (pc := 14) (tgt := 110) (off := 96) dX2_tellOrder_14 (by decide) (by decide) rfl (by decide) ?_
      refine r_aload_n (d := mX2_tellOrder) (pc := 110) (i := 0) (v := b) dX2_tellOrder_110 rfl rfl ?_
      refine r_iload_n (d := mX2_tellOrder) (pc := 111) (i := 1) (v := ix) dX2_tellOrder_111 rfl rfl ?_
      refine r_cV1 (d := mX2_tellOrder) (pc := 112) (dj := mX2_hasBegun) (a := b) (kd := 2) dX2_tellOrder_112 mlRX2_234 inX2_hasBegun selX2_hasBegun rfl hR.1.1 (by decide) okX2_hasBegun (by decide) rfl (Nat.le_of_ble_eq_true rfl) (by decide) (by decide) (Fn_X2_hasBegun k I P b hR  ix) ?_
      refine r_ifb_eq (d := mX2_tellOrder) (pc := 115) (tgt := 142) dX2_tellOrder_115 (by decide) (fun h115 => ?_) (fun h115 => ?_)
      · refine r_bipush (d := mX2_tellOrder) (pc := 142) (n := (-4)) dX2_tellOrder_142 ?_
        exact r_iret (d := mX2_tellOrder) (pc := 144) dX2_tellOrder_144 rfl (rtI (by rw [toV, if_neg (by omega)]; first | ((have hk9 : kOf (I (b + 7)) (I (b + 11) ix) = 1000000 := by omega); simp [hk9]; done) | ((have hk9 : kOf (I (b + 7)) (I (b + 11) ix) ≠ 1000000 := by omega); simp [hk9]; done)) (by rfl)) (by decide) (by decide)
      · refine r_aload_n (d := mX2_tellOrder) (pc := 118) (i := 0) (v := b) dX2_tellOrder_118 rfl rfl ?_
        refine r_getRs (d := mX2_tellOrder) (pc := 119) (a := b) (kd := 2) (j := 9) (x := b + 5) dX2_tellOrder_119 flRX2_47 hR.1.1 (by decide) (by decide) rfl hR.2.1.2.2.1 ?_
        refine r_aload_n (d := mX2_tellOrder) (pc := 122) (i := 0) (v := b) dX2_tellOrder_122 rfl rfl ?_
        refine r_getRs (d := mX2_tellOrder) (pc := 123) (a := b) (kd := 2) (j := 10) (x := b + 9) dX2_tellOrder_123 flRX2_54 hR.1.1 (by decide) (by decide) rfl hR.2.1.2.2.2.1 ?_
        refine r_getRs (d := mX2_tellOrder) (pc := 126) (a := b + 9) (kd := 1) (j := 2) (x := b + 11) dX2_tellOrder_126 flRX2_186 hR.2.2.2.2.1.1 (by decide) (by decide) rfl hR.2.2.2.2.1.2.2.2.2.2.2.2.1 ?_
        refine r_iload_n (d := mX2_tellOrder) (pc := 129) (i := 1) (v := ix) dX2_tellOrder_129 rfl rfl ?_
        refine r_ialds (d := mX2_tellOrder) (pc := 130) (a := b + 11) (x := (I (b + 11) ix)) dX2_tellOrder_130 hR.2.2.2.2.1.2.2.1 (by omega) (by omega) (rfl) ?_
        refine r_cV1 (d := mX2_tellOrder) (pc := 131) (dj := mX4_knownTimeOf) (a := b + 5) (kd := 4) dX2_tellOrder_131 mlRX2_187 inX4_knownTimeOf selX4_knownTimeOf rfl hR.2.2.2.1.1 (by decide) okX4_knownTimeOf (by decide) rfl (Nat.le_of_ble_eq_true rfl) (by decide) (by decide) (Fn_X4_knownTimeOf (k + 1) I P (b + 5) (b + 6) (b + 7) (b + 8) hR.2.2.2.1  (I (b + 11) ix)) ?_
        refine r_aload_n (d := mX2_tellOrder) (pc := 134) (i := 0) (v := b) dX2_tellOrder_134 rfl rfl ?_
        refine r_getIs (d := mX2_tellOrder) (pc := 135) (a := b) (kd := 2) (j := 1) (x := (I b 1)) dX2_tellOrder_135 flRX2_15 hR.1.1 (by decide) (by decide) rfl (rfl) ?_
        refine r_isub (d := mX2_tellOrder) (pc := 138) dX2_tellOrder_138 ?_ (by have hk9 := hk (I (b + 11) ix); unfold mI; omega)
        refine r_goto (d := mX2_tellOrder) (pc := 139) (tgt := 144) dX2_tellOrder_139 (by decide) ?_
        exact r_iret (d := mX2_tellOrder) (pc := 144) dX2_tellOrder_144 rfl (rtI (by rw [toV, if_neg (by omega)]; first | ((have hk9 : kOf (I (b + 7)) (I (b + 11) ix) = 1000000 := by omega); simp [hk9]; done) | ((have hk9 : kOf (I (b + 7)) (I (b + 11) ix) ≠ 1000000 := by omega); simp [hk9]; done)) (by rfl)) (by decide) (by decide)
    by_cases hs14_6 : what = 6
    · rw [hs14_6]
      refine r_tableIn (d := mX2_tellOrder) (pc := 14) (tgt := 145) (off := 131) dX2_tellOrder_14 (by decide) (by decide) rfl (by decide) ?_
      refine r_aload_n (d := mX2_tellOrder) (pc := 145) (i := 0) (v := b) dX2_tellOrder_145 rfl rfl ?_
      refine r_getRs (d := mX2_tellOrder) (pc := 146) (a := b) (kd := 2) (j := 10) (x := b + 9) dX2_tellOrder_146 flRX2_54 hR.1.1 (by decide) (by decide) rfl hR.2.1.2.2.2.1 ?_
      refine r_getRs (d := mX2_tellOrder) (pc := 149) (a := b + 9) (kd := 1) (j := 5) (x := b + 14) dX2_tellOrder_149 flRX2_237 hR.2.2.2.2.1.1 (by decide) (by decide) rfl hR.2.2.2.2.1.2.2.2.2.2.2.2.2.2.2 ?_
      refine r_iload_n (d := mX2_tellOrder) (pc := 152) (i := 1) (v := ix) dX2_tellOrder_152 rfl rfl ?_
      refine r_ialds (d := mX2_tellOrder) (pc := 153) (a := b + 14) (x := (I (b + 14) ix)) dX2_tellOrder_153 hR.2.2.2.2.1.2.2.2.2.2.1 (by omega) (by omega) (rfl) ?_
      exact r_iret (d := mX2_tellOrder) (pc := 154) dX2_tellOrder_154 rfl (rtI (by rw [toV, if_neg (by omega)]; simp [*]) (by rfl)) (by decide) (by decide)
    refine r_tableOut (d := mX2_tellOrder) (pc := 14) (tgt := 155) dX2_tellOrder_14 (by omega) (by decide) ?_
    refine r_iconst (d := mX2_tellOrder) (pc := 155) (n := (-1)) dX2_tellOrder_155 ?_
    exact r_iret (d := mX2_tellOrder) (pc := 156) dX2_tellOrder_156 rfl (rtI (by rw [toV, if_neg (by omega)]; simp [*]) (by rfl)) (by decide) (by decide)
  · refine r_iconst (d := mX2_tellOrder) (pc := 11) (n := (-1)) dX2_tellOrder_11 ?_
    exact r_iret (d := mX2_tellOrder) (pc := 12) dX2_tellOrder_12 rfl (rtI (by rw [toV, if_pos h8]) (by rfl)) (by decide) (by decide)
set_option maxRecDepth 20000 in
set_option maxHeartbeats 4000000 in
theorem Fn_X2_tellNumber (k : Nat) (I : mIt) (P : mPt) (b : Nat) (hR : isRm P b) (n : Nat) (hn : I (b + 9) 0 = n) (hn6 : n ≤ 6) (mc : Nat) (hm : I b 6 = mc) (hm3 : mc ≤ 3) (nc : Nat) (hc : I b 0 = nc) (hc7 : nc ≤ 7) (htk : 0 ≤ tkn I b n mc ∧ tkn I b n mc < 256) (what : Int) : WP (k + 3) mX2_tellNumber none (0, 0) (Rt (some (.inl (tuV I b n mc nc what))) (lay0, I, P)) 0 [(0, .inr (some b)), (1, .inl what)] [] (lay0, I, P) := by
  refine r_iload_n (d := mX2_tellNumber) (pc := 0) (i := 1) (v := what) dX2_tellNumber_0 rfl rfl ?_
  by_cases hs1_0 : what = 0
  · rw [hs1_0]
    refine r_tableIn (d := mX2_tellNumber) (pc := 1) (tgt := 56) (off := 55) dX2_tellNumber_1 (by decide) (by decide) rfl (by decide) ?_
    refine r_aload_n (d := mX2_tellNumber) (pc := 56) (i := 0) (v := b) dX2_tellNumber_56 rfl rfl ?_
    refine r_getIs (d := mX2_tellNumber) (pc := 57) (a := b) (kd := 2) (j := 0) (x := (nc : Int)) dX2_tellNumber_57 flRX2_9 hR.1.1 (by decide) (by decide) rfl (hc) ?_
    exact r_iret (d := mX2_tellNumber) (pc := 60) dX2_tellNumber_60 rfl (rtI (by simp [tuV, tkn]) (by rfl)) (by decide) (by decide)
  by_cases hs1_1 : what = 1
  · rw [hs1_1]
    refine r_tableIn (d := mX2_tellNumber) (pc := 1) (tgt := 61) (off := 60) dX2_tellNumber_1 (by decide) (by decide) rfl (by decide) ?_
    refine r_aload_n (d := mX2_tellNumber) (pc := 61) (i := 0) (v := b) dX2_tellNumber_61 rfl rfl ?_
    refine r_getIs (d := mX2_tellNumber) (pc := 62) (a := b) (kd := 2) (j := 0) (x := (nc : Int)) dX2_tellNumber_62 flRX2_9 hR.1.1 (by decide) (by decide) rfl (hc) ?_
    refine r_aload_n (d := mX2_tellNumber) (pc := 65) (i := 0) (v := b) dX2_tellNumber_65 rfl rfl ?_
    refine r_cV0 (d := mX2_tellNumber) (pc := 66) (dj := mX2_pinnedChairs) (a := b) (kd := 2) dX2_tellNumber_66 mlRX2_153 inX2_pinnedChairs selX2_pinnedChairs rfl hR.1.1 (by decide) okX2_pinnedChairs (by decide) rfl (Nat.le_of_ble_eq_true rfl) (by decide) (by decide) (Fn_X2_pinnedChairs (k + 2) I P b hR n (hn) hn6 mc (hm) hm3) ?_
    refine r_aload_n (d := mX2_tellNumber) (pc := 69) (i := 0) (v := b) dX2_tellNumber_69 rfl rfl ?_
    refine r_getRs (d := mX2_tellNumber) (pc := 70) (a := b) (kd := 2) (j := 8) (x := b + 2) dX2_tellNumber_70 flRX2_40 hR.1.1 (by decide) (by decide) rfl hR.2.1.2.1 ?_
    refine r_cV0 (d := mX2_tellNumber) (pc := 73) (dj := mX0_chairSet) (a := b + 2) (kd := 0) dX2_tellNumber_73 mlRX2_156 inX0_chairSet selX0_chairSet rfl hR.2.2.1.1 (by decide) okX0_chairSet (by decide) rfl (Nat.le_of_ble_eq_true rfl) (by decide) (by decide) (Fn_X0_chairSet (k + 2) I P (b + 2) (b + 3) (b + 4) hR.2.2.1  ) ?_
    refine r_ior (d := mX2_tellNumber) (pc := 76) dX2_tellNumber_76 ?_
    refine r_cS1 (d := mX2_tellNumber) (pc := 77) (dj := mJ6_bitCount_0f7a4) dX2_tellNumber_77 mlRX2_214 staJ6_bitCount_0f7a4 okJ6_bitCount_0f7a4 (by decide) rfl (Nat.le_of_ble_eq_true rfl) (by decide) (by decide) (Fn_bc (k + 2) I P (bOr (pinA I b n mc) (cset (I (b + 3)) 8)) (htk.1) (htk.2)) ?_
    refine r_isub (d := mX2_tellNumber) (pc := 80) dX2_tellNumber_80 ?_ (by have := onesF_8 htk.1 htk.2; unfold mI; simp only [tkn] at this ⊢; omega)
    exact r_iret (d := mX2_tellNumber) (pc := 81) dX2_tellNumber_81 rfl (rtI (by simp [tuV, tkn]) (by rfl)) (by decide) (by decide)
  by_cases hs1_2 : what = 2
  · rw [hs1_2]
    refine r_tableIn (d := mX2_tellNumber) (pc := 1) (tgt := 82) (off := 81) dX2_tellNumber_1 (by decide) (by decide) rfl (by decide) ?_
    refine r_bipush (d := mX2_tellNumber) (pc := 82) (n := 8) dX2_tellNumber_82 ?_
    refine r_aload_n (d := mX2_tellNumber) (pc := 84) (i := 0) (v := b) dX2_tellNumber_84 rfl rfl ?_
    refine r_getRs (d := mX2_tellNumber) (pc := 85) (a := b) (kd := 2) (j := 8) (x := b + 2) dX2_tellNumber_85 flRX2_40 hR.1.1 (by decide) (by decide) rfl hR.2.1.2.1 ?_
    refine r_iconst (d := mX2_tellNumber) (pc := 88) (n := (-1)) dX2_tellNumber_88 ?_
    refine r_cV1 (d := mX2_tellNumber) (pc := 89) (dj := mX0_namesOn) (a := b + 2) (kd := 0) dX2_tellNumber_89 mlRX2_211 inX0_namesOn selX0_namesOn rfl hR.2.2.1.1 (by decide) okX0_namesOn (by decide) rfl (Nat.le_of_ble_eq_true rfl) (by decide) (by decide) (Fn_X0_namesOn (k + 2) I P (b + 2) (b + 3) (b + 4) hR.2.2.1  (-1)) ?_
    refine r_cS1 (d := mX2_tellNumber) (pc := 92) (dj := mJ6_bitCount_0f7a4) dX2_tellNumber_92 mlRX2_214 staJ6_bitCount_0f7a4 okJ6_bitCount_0f7a4 (by decide) rfl (Nat.le_of_ble_eq_true rfl) (by decide) (by decide) (Fn_bc (k + 2) I P (nmask (I (b + 3)) (-1) 8) ((nmask_256 _ _).1) ((nmask_256 _ _).2)) ?_
    refine r_isub (d := mX2_tellNumber) (pc := 95) dX2_tellNumber_95 ?_ (by have := onesF_8 (nmask_256 (I (b + 3)) (-1)).1 (nmask_256 (I (b + 3)) (-1)).2; unfold mI; omega)
    exact r_iret (d := mX2_tellNumber) (pc := 96) dX2_tellNumber_96 rfl (rtI (by simp [tuV, tkn]) (by rfl)) (by decide) (by decide)
  by_cases hs1_3 : what = 3
  · rw [hs1_3]
    refine r_tableIn (d := mX2_tellNumber) (pc := 1) (tgt := 97) (off := 96) dX2_tellNumber_1 (by decide) (by decide) rfl (by decide) ?_
    refine r_aload_n (d := mX2_tellNumber) (pc := 97) (i := 0) (v := b) dX2_tellNumber_97 rfl rfl ?_
    refine r_getRs (d := mX2_tellNumber) (pc := 98) (a := b) (kd := 2) (j := 10) (x := b + 9) dX2_tellNumber_98 flRX2_54 hR.1.1 (by decide) (by decide) rfl hR.2.1.2.2.2.1 ?_
    refine r_getIs (d := mX2_tellNumber) (pc := 101) (a := b + 9) (kd := 1) (j := 0) (x := (n : Int)) dX2_tellNumber_101 flRX2_101 hR.2.2.2.2.1.1 (by decide) (by decide) rfl (hn) ?_
    exact r_iret (d := mX2_tellNumber) (pc := 104) dX2_tellNumber_104 rfl (rtI (by simp [tuV, tkn]) (by rfl)) (by decide) (by decide)
  by_cases hs1_4 : what = 4
  · rw [hs1_4]
    refine r_tableIn (d := mX2_tellNumber) (pc := 1) (tgt := 105) (off := 104) dX2_tellNumber_1 (by decide) (by decide) rfl (by decide) ?_
    refine r_aload_n (d := mX2_tellNumber) (pc := 105) (i := 0) (v := b) dX2_tellNumber_105 rfl rfl ?_
    refine r_cV0 (d := mX2_tellNumber) (pc := 106) (dj := mX2_begunOrders) (a := b) (kd := 2) dX2_tellNumber_106 mlRX2_239 inX2_begunOrders selX2_begunOrders rfl hR.1.1 (by decide) okX2_begunOrders (by decide) rfl (Nat.le_of_ble_eq_true rfl) (by decide) (by decide) (Fn_X2_begunOrders k I P b hR n hn hn6 ) ?_
    exact r_iret (d := mX2_tellNumber) (pc := 109) dX2_tellNumber_109 rfl (rtI (by simp [tuV, tkn]) (by rfl)) (by decide) (by decide)
  by_cases hs1_5 : what = 5
  · rw [hs1_5]
    refine r_tableIn (d := mX2_tellNumber) (pc := 1) (tgt := 110) (off := 109) dX2_tellNumber_1 (by decide) (by decide) rfl (by decide) ?_
    refine r_aload_n (d := mX2_tellNumber) (pc := 110) (i := 0) (v := b) dX2_tellNumber_110 rfl rfl ?_
    refine r_getIs (d := mX2_tellNumber) (pc := 111) (a := b) (kd := 2) (j := 2) (x := (I b 2)) dX2_tellNumber_111 flRX2_18 hR.1.1 (by decide) (by decide) rfl (rfl) ?_
    exact r_iret (d := mX2_tellNumber) (pc := 114) dX2_tellNumber_114 rfl (rtI (by simp [tuV, tkn]) (by rfl)) (by decide) (by decide)
  by_cases hs1_6 : what = 6
  · rw [hs1_6]
    refine r_tableIn (d := mX2_tellNumber) (pc := 1) (tgt := 115) (off := 114) dX2_tellNumber_1 (by decide) (by decide) rfl (by decide) ?_
    refine r_aload_n (d := mX2_tellNumber) (pc := 115) (i := 0) (v := b) dX2_tellNumber_115 rfl rfl ?_
    refine r_getIs (d := mX2_tellNumber) (pc := 116) (a := b) (kd := 2) (j := 1) (x := (I b 1)) dX2_tellNumber_116 flRX2_15 hR.1.1 (by decide) (by decide) rfl (rfl) ?_
    exact r_iret (d := mX2_tellNumber) (pc := 119) dX2_tellNumber_119 rfl (rtI (by simp [tuV, tkn]) (by rfl)) (by decide) (by decide)
  by_cases hs1_7 : what = 7
  · rw [hs1_7]
    refine r_tableIn (d := mX2_tellNumber) (pc := 1) (tgt := 120) (off := 119) dX2_tellNumber_1 (by decide) (by decide) rfl (by decide) ?_
    refine r_aload_n (d := mX2_tellNumber) (pc := 120) (i := 0) (v := b) dX2_tellNumber_120 rfl rfl ?_
    refine r_getIs (d := mX2_tellNumber) (pc := 121) (a := b) (kd := 2) (j := 6) (x := (mc : Int)) dX2_tellNumber_121 flRX2_30 hR.1.1 (by decide) (by decide) rfl (hm) ?_
    exact r_iret (d := mX2_tellNumber) (pc := 124) dX2_tellNumber_124 rfl (rtI (by simp [tuV, tkn]) (by rfl)) (by decide) (by decide)
  by_cases hs1_8 : what = 8
  · rw [hs1_8]
    refine r_tableIn (d := mX2_tellNumber) (pc := 1) (tgt := 125) (off := 124) dX2_tellNumber_1 (by decide) (by decide) rfl (by decide) ?_
    refine r_aload_n (d := mX2_tellNumber) (pc := 125) (i := 0) (v := b) dX2_tellNumber_125 rfl rfl ?_
    refine r_getIs (d := mX2_tellNumber) (pc := 126) (a := b) (kd := 2) (j := 3) (x := (I b 3)) dX2_tellNumber_126 flRX2_21 hR.1.1 (by decide) (by decide) rfl (rfl) ?_
    exact r_iret (d := mX2_tellNumber) (pc := 129) dX2_tellNumber_129 rfl (rtI (by simp [tuV, tkn]) (by rfl)) (by decide) (by decide)
  by_cases hs1_9 : what = 9
  · rw [hs1_9]
    refine r_tableIn (d := mX2_tellNumber) (pc := 1) (tgt := 130) (off := 129) dX2_tellNumber_1 (by decide) (by decide) rfl (by decide) ?_
    refine r_aload_n (d := mX2_tellNumber) (pc := 130) (i := 0) (v := b) dX2_tellNumber_130 rfl rfl ?_
    refine r_getIs (d := mX2_tellNumber) (pc := 131) (a := b) (kd := 2) (j := 4) (x := (I b 4)) dX2_tellNumber_131 flRX2_24 hR.1.1 (by decide) (by decide) rfl (rfl) ?_
    exact r_iret (d := mX2_tellNumber) (pc := 134) dX2_tellNumber_134 rfl (rtI (by simp [tuV, tkn]) (by rfl)) (by decide) (by decide)
  refine r_tableOut (d := mX2_tellNumber) (pc := 1) (tgt := 135) dX2_tellNumber_1 (by omega) (by decide) ?_
  refine r_iload_n (d := mX2_tellNumber) (pc := 135) (i := 1) (v := what) dX2_tellNumber_135 rfl rfl ?_
  refine r_bipush (d := mX2_tellNumber) (pc := 136) (n := 20) dX2_tellNumber_136 ?_
  refine r_bipush (d := mX2_tellNumber) (pc := 138) (n := 23) dX2_tellNumber_138 ?_
  refine r_cSN3 (d := mX2_tellNumber) (pc := 140) (dj := mX5_within) dX2_tellNumber_140 mnRX2_97 staX5_within okX5_within (by decide) rfl (Nat.le_of_ble_eq_true rfl) (by decide) (by decide) (Fn_X5_within (k + 2) I P what 20 23) ?_
  refine r_ifb_eq (d := mX2_tellNumber) (pc := 143) (tgt := 158) dX2_tellNumber_143 (by decide) (fun h143 => ?_) (fun h143 => ?_)
  · refine r_iconst (d := mX2_tellNumber) (pc := 158) (n := (-1)) dX2_tellNumber_158 ?_
    exact r_iret (d := mX2_tellNumber) (pc := 159) dX2_tellNumber_159 rfl (rtI (by simp only [tuV]; rw [if_neg (by omega), if_neg (by omega), if_neg (by omega), if_neg (by omega), if_neg (by omega), if_neg (by omega), if_neg (by omega), if_neg (by omega), if_neg (by omega), if_neg (by omega)]; first | rw [if_pos (by omega)] | rw [if_neg (by omega)]) (by rfl)) (by decide) (by decide)
  · refine r_aload_n (d := mX2_tellNumber) (pc := 146) (i := 0) (v := b) dX2_tellNumber_146 rfl rfl ?_
    refine r_getRs (d := mX2_tellNumber) (pc := 147) (a := b) (kd := 2) (j := 7) (x := b + 1) dX2_tellNumber_147 flRX2_33 hR.1.1 (by decide) (by decide) rfl hR.2.1.1 ?_
    refine r_iload_n (d := mX2_tellNumber) (pc := 150) (i := 1) (v := what) dX2_tellNumber_150 rfl rfl ?_
    refine r_bipush (d := mX2_tellNumber) (pc := 151) (n := 20) dX2_tellNumber_151 ?_
    refine r_isub (d := mX2_tellNumber) (pc := 153) dX2_tellNumber_153 ?_
    refine r_ialds (d := mX2_tellNumber) (pc := 154) (a := b + 1) (x := (I (b + 1) (what - 20))) dX2_tellNumber_154 hR.1.2.1 (by omega) (by omega) (rfl) ?_
    refine r_goto (d := mX2_tellNumber) (pc := 155) (tgt := 159) dX2_tellNumber_155 (by decide) ?_
    exact r_iret (d := mX2_tellNumber) (pc := 159) dX2_tellNumber_159 rfl (rtI (by simp only [tuV]; rw [if_neg (by omega), if_neg (by omega), if_neg (by omega), if_neg (by omega), if_neg (by omega), if_neg (by omega), if_neg (by omega), if_neg (by omega), if_neg (by omega), if_neg (by omega)]; first | rw [if_pos (by omega)] | rw [if_neg (by omega)]) (by rfl)) (by decide) (by decide)
