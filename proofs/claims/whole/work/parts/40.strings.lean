/-! ===== the forms' strings: their length, their signs ===== -/
theorem sLen_shr : ∀ i : Nat, i < 9 → bShr ((sLen.getD i 0 : Nat) : Int) 0 = ((sLen.getD i 0 : Nat) : Int) := by decide +kernel
def chS (i : Nat) (j : Int) : Int := bAnd ((sByt.getD i []).getD j.toNat 0).toInt 255
theorem chS_r0 : ∀ i : Nat, i < 9 → ∀ j : Nat, j < 10 → 0 ≤ bAnd ((sByt.getD i []).getD j 0).toInt 255 ∧ bAnd ((sByt.getD i []).getD j 0).toInt 255 ≤ 126 := by decide +kernel
theorem chS_rng {i : Nat} (hi : i < 9) {j : Int} (h0 : 0 ≤ j) (h1 : j < ((sLen.getD i 0 : Nat) : Int)) : 0 ≤ chS i j ∧ chS i j ≤ 126 := chS_r0 i hi j.toNat (by have := sLen_le i hi; omega)
set_option maxRecDepth 20000 in
set_option maxHeartbeats 4000000 in
theorem Fn_J0_coder_7d493 (k : Nat) (I : mIt) (P : mPt) (i : Nat) (hi : i < 9) : WP (k + 0) mJ0_coder_7d493 none (0, 0) (Rt (some (.inl 0)) (lay0, I, P)) 0 [(0, .inr (some (1000 + i)))] [] (lay0, I, P) := by
  refine r_gsC (d := mJ0_coder_7d493) (pc := 0) dJ0_coder_7d493_0 flRJ0_38 ?_
  refine r_if_eq (d := mJ0_coder_7d493) (pc := 3) (tgt := 13) dJ0_coder_7d493_3 (by decide) (fun q => absurd q (by decide)) (fun _ => ?_)
  refine r_aload_n (d := mJ0_coder_7d493) (pc := 6) (i := 0) (v := 1000 + i) dJ0_coder_7d493_6 rfl rfl ?_
  refine r_sCod (d := mJ0_coder_7d493) (pc := 7) (i := i) dJ0_coder_7d493_7 (by first | decide | assumption) flRJ0_15 ?_
  refine r_goto (d := mJ0_coder_7d493) (pc := 10) (tgt := 14) dJ0_coder_7d493_10 (by decide) ?_
  exact r_bret0 (d := mJ0_coder_7d493) (pc := 14) dJ0_coder_7d493_14 rfl (rtI (by rfl) (by rfl)) (by decide) (by decide)
set_option maxRecDepth 20000 in
set_option maxHeartbeats 4000000 in
theorem Fn_J0_length_8abf5 (k : Nat) (I : mIt) (P : mPt) (i : Nat) (hi : i < 9) : WP (k + 1) mJ0_length_8abf5 none (0, 0) (Rt (some (.inl ((sLen.getD i 0 : Nat) : Int))) (lay0, I, P)) 0 [(0, .inr (some (1000 + i)))] [] (lay0, I, P) := by
  refine r_aload_n (d := mJ0_length_8abf5) (pc := 0) (i := 0) (v := 1000 + i) dJ0_length_8abf5_0 rfl rfl ?_
  refine r_sVal (d := mJ0_length_8abf5) (pc := 1) (i := i) dJ0_length_8abf5_1 (by first | decide | assumption) flRJ0_9 ?_
  refine r_sLen (d := mJ0_length_8abf5) (pc := 4) (i := i) dJ0_length_8abf5_4 (by first | decide | assumption) ?_
  refine r_aload_n (d := mJ0_length_8abf5) (pc := 5) (i := 0) (v := 1000 + i) dJ0_length_8abf5_5 rfl rfl ?_
  refine r_cT0 (d := mJ0_length_8abf5) (pc := 6) (dj := mJ0_coder_7d493) (i := i) dJ0_length_8abf5_6 mlRJ0_335 inJ0_coder_7d493 selJ0_coder_7d493 rfl (by first | decide | assumption) okJ0_coder_7d493 (by decide) rfl (Nat.le_of_ble_eq_true rfl) (by decide) (by decide) (Fn_J0_coder_7d493 k I P i (by first | decide | assumption)) ?_
  refine r_ishr (d := mJ0_length_8abf5) (pc := 9) dJ0_length_8abf5_9 ?_
  exact r_iret (d := mJ0_length_8abf5) (pc := 10) dJ0_length_8abf5_10 rfl (rtI (by exact sLen_shr i hi) (by rfl)) (by decide) (by decide)
set_option maxRecDepth 20000 in
set_option maxHeartbeats 4000000 in
theorem Fn_J0_isLatin1_aae02 (k : Nat) (I : mIt) (P : mPt) (i : Nat) (hi : i < 9) : WP (k + 0) mJ0_isLatin1_aae02 none (0, 0) (Rt (some (.inl 1)) (lay0, I, P)) 0 [(0, .inr (some (1000 + i)))] [] (lay0, I, P) := by
  refine r_gsC (d := mJ0_isLatin1_aae02) (pc := 0) dJ0_isLatin1_aae02_0 flRJ0_38 ?_
  refine r_if_eq (d := mJ0_isLatin1_aae02) (pc := 3) (tgt := 17) dJ0_isLatin1_aae02_3 (by decide) (fun q => absurd q (by decide)) (fun _ => ?_)
  refine r_aload_n (d := mJ0_isLatin1_aae02) (pc := 6) (i := 0) (v := 1000 + i) dJ0_isLatin1_aae02_6 rfl rfl ?_
  refine r_sCod (d := mJ0_isLatin1_aae02) (pc := 7) (i := i) dJ0_isLatin1_aae02_7 (by first | decide | assumption) flRJ0_15 ?_
  refine r_if_ne (d := mJ0_isLatin1_aae02) (pc := 10) (tgt := 17) dJ0_isLatin1_aae02_10 (by decide) (fun q => absurd q (by decide)) (fun _ => ?_)
  refine r_iconst (d := mJ0_isLatin1_aae02) (pc := 13) (n := 1) dJ0_isLatin1_aae02_13 ?_
  refine r_goto (d := mJ0_isLatin1_aae02) (pc := 14) (tgt := 18) dJ0_isLatin1_aae02_14 (by decide) ?_
  exact r_zret (d := mJ0_isLatin1_aae02) (pc := 18) dJ0_isLatin1_aae02_18 rfl (Or.inr rfl) (rtI (by rfl) (by rfl)) (by decide) (by decide)
set_option maxRecDepth 20000 in
set_option maxHeartbeats 4000000 in
theorem Fn_J3_checkIndex_8e157 (k : Nat) (I : mIt) (P : mPt) (j n : Int) (r : Option Nat) (h0 : 0 ≤ j) (h1 : j < n) : WP (k + 0) mJ3_checkIndex_8e157 none (0, 0) (Rt (some (.inl j)) (lay0, I, P)) 0 [(0, .inl j), (1, .inl n), (2, .inr r)] [] (lay0, I, P) := by
  refine r_iload_n (d := mJ3_checkIndex_8e157) (pc := 0) (i := 0) (v := j) dJ3_checkIndex_8e157_0 rfl rfl ?_
  refine r_if_lt (d := mJ3_checkIndex_8e157) (pc := 1) (tgt := 9) dJ3_checkIndex_8e157_1 (by decide) (fun h1 => ?_) (fun h1 => ?_)
  · exfalso; omega
  · refine r_iload_n (d := mJ3_checkIndex_8e157) (pc := 4) (i := 0) (v := j) dJ3_checkIndex_8e157_4 rfl rfl ?_
    refine r_iload_n (d := mJ3_checkIndex_8e157) (pc := 5) (i := 1) (v := n) dJ3_checkIndex_8e157_5 rfl rfl ?_
    refine r_icmp_lt (d := mJ3_checkIndex_8e157) (pc := 6) (tgt := 16) dJ3_checkIndex_8e157_6 (by decide) (fun h6 => ?_) (fun h6 => ?_)
    · refine r_iload_n (d := mJ3_checkIndex_8e157) (pc := 16) (i := 0) (v := j) dJ3_checkIndex_8e157_16 rfl rfl ?_
      exact r_iret (d := mJ3_checkIndex_8e157) (pc := 17) dJ3_checkIndex_8e157_17 rfl (rtI (by rfl) (by rfl)) (by decide) (by decide)
    · exfalso; omega
set_option maxRecDepth 20000 in
set_option maxHeartbeats 4000000 in
theorem Fn_J0_checkIndex_df160 (k : Nat) (I : mIt) (P : mPt) (j n : Int) (h0 : 0 ≤ j) (h1 : j < n) : WP (k + 1) mJ0_checkIndex_df160 none (0, 0) (Rt none (lay0, I, P)) 0 [(0, .inl j), (1, .inl n)] [] (lay0, I, P) := by
  refine r_iload_n (d := mJ0_checkIndex_df160) (pc := 0) (i := 0) (v := j) dJ0_checkIndex_df160_0 rfl rfl ?_
  refine r_iload_n (d := mJ0_checkIndex_df160) (pc := 1) (i := 1) (v := n) dJ0_checkIndex_df160_1 rfl rfl ?_
  refine r_gsF (d := mJ0_checkIndex_df160) (pc := 2) dJ0_checkIndex_df160_2 flRJ0_1053 (fun r => ?_)
  refine r_cS3 (d := mJ0_checkIndex_df160) (pc := 5) (dj := mJ3_checkIndex_8e157) dJ0_checkIndex_df160_5 mlRJ0_1059 staJ3_checkIndex_8e157 okJ3_checkIndex_8e157 (by decide) rfl (Nat.le_of_ble_eq_true rfl) (by decide) (by decide) (Fn_J3_checkIndex_8e157 k I P j n r (by omega) (by omega)) ?_
  refine r_pop (d := mJ0_checkIndex_df160) (pc := 8) dJ0_checkIndex_df160_8 ?_
  exact r_ret (d := mJ0_checkIndex_df160) (pc := 9) dJ0_checkIndex_df160_9 rfl (rtV (by rfl)) (by decide) (by decide)
set_option maxRecDepth 20000 in
set_option maxHeartbeats 4000000 in
theorem Fn_J1_charAt_3b067 (k : Nat) (I : mIt) (P : mPt) (i : Nat) (hi : i < 9) (j : Int) (h0 : 0 ≤ j) (h1 : j < ((sLen.getD i 0 : Nat) : Int)) : WP (k + 2) mJ1_charAt_3b067 none (0, 0) (Rt (some (.inl (chS i j))) (lay0, I, P)) 0 [(0, .inr (some (1100 + i))), (1, .inl j)] [] (lay0, I, P) := by
  have hcr := chS_rng hi h0 h1
  unfold chS at hcr
  refine r_iload_n (d := mJ1_charAt_3b067) (pc := 0) (i := 1) (v := j) dJ1_charAt_3b067_0 rfl rfl ?_
  refine r_aload_n (d := mJ1_charAt_3b067) (pc := 1) (i := 0) (v := 1100 + i) dJ1_charAt_3b067_1 rfl rfl ?_
  refine r_sLen (d := mJ1_charAt_3b067) (pc := 2) (i := i) dJ1_charAt_3b067_2 (by first | decide | assumption) ?_
  refine r_cS2 (d := mJ1_charAt_3b067) (pc := 3) (dj := mJ0_checkIndex_df160) dJ1_charAt_3b067_3 mlRJ1_9 staJ0_checkIndex_df160 okJ0_checkIndex_df160 (by decide) rfl (Nat.le_of_ble_eq_true rfl) (by decide) (by decide) (Fn_J0_checkIndex_df160 k I P j ((sLen.getD i 0 : Nat) : Int) (by omega) (by omega)) ?_
  refine r_aload_n (d := mJ1_charAt_3b067) (pc := 6) (i := 0) (v := 1100 + i) dJ1_charAt_3b067_6 rfl rfl ?_
  refine r_iload_n (d := mJ1_charAt_3b067) (pc := 7) (i := 1) (v := j) dJ1_charAt_3b067_7 rfl rfl ?_
  refine r_sByt (d := mJ1_charAt_3b067) (pc := 8) (i := i) (j := j) dJ1_charAt_3b067_8 (by first | decide | assumption) (by omega) (by omega) ?_
  refine r_sipush (d := mJ1_charAt_3b067) (pc := 9) (n := 255) dJ1_charAt_3b067_9 ?_
  refine r_iand (d := mJ1_charAt_3b067) (pc := 12) dJ1_charAt_3b067_12 ?_
  refine r_i2c (d := mJ1_charAt_3b067) (pc := 13) dJ1_charAt_3b067_13 (by omega) (by omega) ?_
  exact r_cret (d := mJ1_charAt_3b067) (pc := 14) dJ1_charAt_3b067_14 rfl (by omega) (rtI (by rfl) (by rfl)) (by decide) (by decide)
set_option maxRecDepth 20000 in
set_option maxHeartbeats 4000000 in
theorem Fn_J0_charAt_5068e (k : Nat) (I : mIt) (P : mPt) (i : Nat) (hi : i < 9) (j : Int) (h0 : 0 ≤ j) (h1 : j < ((sLen.getD i 0 : Nat) : Int)) : WP (k + 3) mJ0_charAt_5068e none (0, 0) (Rt (some (.inl (chS i j))) (lay0, I, P)) 0 [(0, .inr (some (1000 + i))), (1, .inl j)] [] (lay0, I, P) := by
  have hcr := chS_rng hi h0 h1
  refine r_aload_n (d := mJ0_charAt_5068e) (pc := 0) (i := 0) (v := 1000 + i) dJ0_charAt_5068e_0 rfl rfl ?_
  refine r_cT0 (d := mJ0_charAt_5068e) (pc := 1) (dj := mJ0_isLatin1_aae02) (i := i) dJ0_charAt_5068e_1 mlRJ0_492 inJ0_isLatin1_aae02 selJ0_isLatin1_aae02 rfl (by first | decide | assumption) okJ0_isLatin1_aae02 (by decide) rfl (Nat.le_of_ble_eq_true rfl) (by decide) (by decide) (Fn_J0_isLatin1_aae02 (k + 2) I P i (by first | decide | assumption)) ?_
  refine r_if_eq (d := mJ0_charAt_5068e) (pc := 4) (tgt := 16) dJ0_charAt_5068e_4 (by decide) (fun q => absurd q (by decide)) (fun _ => ?_)
  refine r_aload_n (d := mJ0_charAt_5068e) (pc := 7) (i := 0) (v := 1000 + i) dJ0_charAt_5068e_7 rfl rfl ?_
  refine r_sVal (d := mJ0_charAt_5068e) (pc := 8) (i := i) dJ0_charAt_5068e_8 (by first | decide | assumption) flRJ0_9 ?_
  refine r_iload_n (d := mJ0_charAt_5068e) (pc := 11) (i := 1) (v := j) dJ0_charAt_5068e_11 rfl rfl ?_
  refine r_cS2 (d := mJ0_charAt_5068e) (pc := 12) (dj := mJ1_charAt_3b067) dJ0_charAt_5068e_12 mlRJ0_495 staJ1_charAt_3b067 okJ1_charAt_3b067 (by decide) rfl (Nat.le_of_ble_eq_true rfl) (by decide) (by decide) (Fn_J1_charAt_3b067 k I P i (by first | decide | assumption) j (by omega) (by omega)) ?_
  exact r_cret (d := mJ0_charAt_5068e) (pc := 15) dJ0_charAt_5068e_15 rfl (by omega) (rtI (by rfl) (by rfl)) (by decide) (by decide)
