/-! ===== the law ===== -/
def mL_law (nm : String) : mD := (⟨RL, nm, "([I)Z"⟩, cL_law, 4, some .boolean, 163, 2179)
/-- one call of the class and of the model: the same answer, and what holds between them is kept -/
def lwStp (m5 m6 : mD) (as : List (Nat × mV)) (Lw : mIt → mPt → Prop) (I : mIt) (P : mPt) : Prop := ∃ (v : Int) (I1 : mIt) (P1 : mPt) (I2 : mIt),
  (∀ k, WP (k + 11) m5 none (0, 0) (Rt (some (.inl v)) (lay0, I1, P1)) 0 ((0, .inr (some 0)) :: as) [] (lay0, I, P)) ∧ (∀ k, WP (k + 11) m6 none (0, 0) (Rt (some (.inl v)) (lay0, I2, P1)) 0 ((0, .inr (some 155)) :: as) [] (lay0, I1, P1)) ∧ Lw I2 P1
def lwStps (Lw : Nat → mIt → mPt → Prop) (n : Nat) (I : mIt) (P : mPt) : Prop :=
  (∀ a, mI a → lwStp mX5_begin mX6_begin [(1, .inl a)] (Lw (n + 1)) I P) ∧ (∀ a, mI a → ∀ b, mI b → lwStp mX5_put mX6_put [(1, .inl a), (2, .inl b)] (Lw (n + 1)) I P) ∧ (∀ a, mI a → ∀ b, mI b → lwStp mX5_copy mX6_copy [(1, .inl a), (2, .inl b)] (Lw (n + 1)) I P) ∧ (∀ a, mI a → ∀ b, mI b → ∀ c, mI c → ∀ d, mI d → lwStp mX5_order mX6_order [(1, .inl a), (2, .inl b), (3, .inl c), (4, .inl d)] (Lw (n + 1)) I P) ∧ (∀ a, mI a → lwStp mX5_tick mX6_tick [(1, .inl a)] (Lw (n + 1)) I P) ∧ (∀ a, mI a → ∀ b, mI b → lwStp mX5_set mX6_set [(1, .inl a), (2, .inl b)] (Lw (n + 1)) I P) ∧ (lwStp mX5_mark mX6_mark [] (Lw (n + 1)) I P) ∧ (lwStp mX5_keep mX6_keep [] (Lw (n + 1)) I P) ∧ (∀ a, mI a → lwStp mX5_back mX6_back [(1, .inl a)] (Lw (n + 1)) I P) ∧ (∀ a, mI a → ∀ b, mI b → ∀ c, mI c → lwStp mX5_markOf mX6_markOf [(1, .inl a), (2, .inl b), (3, .inl c)] (Lw (n + 1)) I P) ∧ (∀ a, mI a → ∀ b, mI b → lwStp mX5_nameOf mX6_nameOf [(1, .inl a), (2, .inl b)] (Lw (n + 1)) I P) ∧ (∀ a, mI a → ∀ b, mI b → lwStp mX5_chairOf mX6_chairOf [(1, .inl a), (2, .inl b)] (Lw (n + 1)) I P) ∧ (∀ a, mI a → ∀ b, mI b → lwStp mX5_orderOf mX6_orderOf [(1, .inl a), (2, .inl b)] (Lw (n + 1)) I P) ∧ (∀ a, mI a → lwStp mX5_count mX6_count [(1, .inl a)] (Lw (n + 1)) I P) ∧ (∀ a, mI a → ∀ b, mI b → ∀ c, mI c → lwStp mX5_sends mX6_sends [(1, .inl a), (2, .inl b), (3, .inl c)] (Lw (n + 1)) I P) ∧ (lwStp mX5_idleIn mX6_idleIn [] (Lw (n + 1)) I P) ∧ (∀ a, mI a → lwStp mX5_knownIn mX6_knownIn [(1, .inl a)] (Lw (n + 1)) I P) ∧ (lwStp mX5_undo mX6_undo [] (Lw (n + 1)) I P) ∧ (∀ a, mI a → lwStp mX5_type mX6_type [(1, .inl a)] (Lw (n + 1)) I P) ∧ (lwStp mX5_clearText mX6_clearText [] (Lw (n + 1)) I P) ∧ (∀ a, mI a → lwStp mX5_fault mX6_fault [(1, .inl a)] (Lw (n + 1)) I P) ∧ (lwStp mX5_play mX6_play [] (Lw (n + 1)) I P)
theorem cn_fresh : ∀ a, 155 < a → ∀ i, cnI0 (fun _ _ => 0) a i = 0 ∧ cnP0 (fun _ _ => none) a i = none := by
  intro a ha i
  unfold cnI0 cnP0
  constructor <;> (repeat first | rw [mUp_ne _ _ _ (by omega)] | rw [ruI_ne _ (by omega)] | rw [ruP_ne _ (by omega)])
theorem cn_155 : ∀ i, cnI0 (fun _ _ => 0) 155 i = 0 ∧ cnP0 (fun _ _ => none) 155 i = none := by
  intro i
  unfold cnI0 cnP0
  constructor <;> (repeat first | rw [mUp_ne _ _ _ (by omega)] | rw [ruI_ne _ (by omega)] | rw [ruP_ne _ (by omega)])
def lI0 : mIt := mdI0 (cnI0 (fun _ _ => 0))
def lP0 : mPt := mdP0 (cnP0 (fun _ _ => none))
set_option maxRecDepth 20000 in
set_option maxHeartbeats 4000000 in
theorem Fn_L_law (k : Nat) (nm : String) (L : Nat) (hLL : L ≤ 2560) (xs : Nat → Int) (hxs : ∀ j, mI (xs j)) (Lw : Nat → mIt → mPt → Prop) (h0 : Lw 0 lI0 lP0) (hst : ∀ n I P, n < 512 → Lw n I P → lwStps Lw n I P) : WP (k + 12) (mL_law nm) (some (L, xs)) (0, 0) (fun r _ => r = some (.inl 1)) 0 [(0, .inr (some 2000))] [] (lay0.take 0, (fun _ _ => 0), (fun _ _ => none)) := by
  refine r_newt (d := mL_law nm) (pc := 0) (q := 0) (kd := 5) dL_law_0 clRL_7 insRX5 iniRX5 (by decide) (by omega) ((by decide : lay0[0]? = some (5, 8))) (by intro i; exact ⟨rfl, rfl⟩) (lay0.take 1, (fun _ _ => 0), (fun _ _ => none)) rfl (Nat.le_of_ble_eq_true rfl) (Nat.le_of_ble_eq_true rfl) ?_
  refine r_dup (d := mL_law nm) (pc := 3) dL_law_3 ?_
  refine r_cI (d := mL_law nm) (pc := 4) (dj := mX5_init) (n1 := 154) (n2 := 997) dL_law_4 mlRL_9 inX5_init rfl rfl okX5_init (by decide) rfl (Nat.le_of_ble_eq_true rfl) (Nat.le_of_ble_eq_true rfl) (Nat.le_of_ble_eq_true rfl) (Fn_X5_init (k + 8) (fun _ _ => 0) (fun _ _ => none) (fun _ _ _ => ⟨rfl, rfl⟩)) ?_
  refine r_astore_n (d := mL_law nm) (pc := 7) (i := 1) (lv' := [(0, .inr (some 2000)), (1, .inr (some 0))]) dL_law_7 rfl (Nat.le_of_ble_eq_true rfl) rfl rfl ?_
  refine r_newt (d := mL_law nm) (pc := 8) (q := 155) (kd := 6) dL_law_8 clRL_10 insRX6 iniRX6 (by decide) (by omega) ((by decide : lay0[155]? = some (6, 13))) (by intro i; exact cn_155 i) ((lay0.take 156), cnI0 (fun _ _ => 0), cnP0 (fun _ _ => none)) rfl (Nat.le_of_ble_eq_true rfl) (Nat.le_of_ble_eq_true rfl) ?_
  refine r_dup (d := mL_law nm) (pc := 11) dL_law_11 ?_
  refine r_cI (d := mL_law nm) (pc := 12) (dj := mX6_init) (n1 := 7) (n2 := 1161) dL_law_12 mlRL_12 inX6_init rfl rfl okX6_init (by decide) rfl (Nat.le_of_ble_eq_true rfl) (Nat.le_of_ble_eq_true rfl) (Nat.le_of_ble_eq_true rfl) (Fn_X6_init (k + 9) (cnI0 (fun _ _ => 0)) (cnP0 (fun _ _ => none)) cn_fresh) ?_
  refine r_astore_n (d := mL_law nm) (pc := 15) (i := 2) (lv' := [(0, .inr (some 2000)), (1, .inr (some 0)), (2, .inr (some 155))]) dL_law_15 rfl (Nat.le_of_ble_eq_true rfl) rfl rfl ?_
  refine r_iconst (d := mL_law nm) (pc := 16) (n := 0) dL_law_16 ?_
  refine r_istore_n (d := mL_law nm) (pc := 17) (i := 3) (lv' := [(0, .inr (some 2000)), (1, .inr (some 0)), (2, .inr (some 155)), (3, .inl 0)]) dL_law_17 rfl (Nat.le_of_ble_eq_true rfl) rfl rfl ?_
  have L18 : ∀ f : Nat, ∀ (n : Nat) (i : Int) (I : mIt) (P : mPt), Lw n I P → 5 * (n : Int) ≤ i → 0 ≤ i → (L : Int) - i ≤ (f : Int) → i ≤ 2560 → WP (k + 12) (mL_law nm) (some (L, xs)) (163, 2179) (fun r _ => r = some (.inl 1)) 18 [(0, .inr (some 2000)), (1, .inr (some 0)), (2, .inr (some 155)), (3, .inl i)] [] (lay0, I, P) := by
    refine loopD _ (fun f ih18 n i I P hL hni hi0 hfi hi6 => ?_)
    refine r_iload_n (d := mL_law nm) (pc := 18) (i := 3) (v := i) dL_law_18 rfl rfl ?_
    refine r_aload_n (d := mL_law nm) (pc := 19) (i := 0) (v := 2000) dL_law_19 rfl rfl ?_
    refine r_scrLen (d := mL_law nm) (pc := 20) (by omega) dL_law_20 ?_
    refine r_iconst (d := mL_law nm) (pc := 21) (n := 5) dL_law_21 ?_
    refine r_isub (d := mL_law nm) (pc := 22) dL_law_22 ?_
    refine r_icmp_gt (d := mL_law nm) (pc := 23) (tgt := 718) dL_law_23 (by decide) (fun h23 => ?_) (fun h23 => ?_)
    · refine r_iconst (d := mL_law nm) (pc := 718) (n := 1) dL_law_718 ?_
      exact r_zret (d := mL_law nm) (pc := 719) dL_law_719 rfl (Or.inr rfl) rfl (Nat.le_of_ble_eq_true rfl) (Nat.le_of_ble_eq_true rfl)
    · refine r_aload_n (d := mL_law nm) (pc := 26) (i := 0) (v := 2000) dL_law_26 rfl rfl ?_
      refine r_iload_n (d := mL_law nm) (pc := 27) (i := 3) (v := i) dL_law_27 rfl rfl ?_
      refine r_scrAt (d := mL_law nm) (pc := 28) (i := i) dL_law_28 (by omega) (by omega) ?_
      refine r_bipush (d := mL_law nm) (pc := 29) (n := 31) dL_law_29 ?_
      refine r_iand (d := mL_law nm) (pc := 31) dL_law_31 ?_
      by_cases hs32_0 : bAnd (xs i.toNat) 31 = 0
      · rw [show (bAnd (xs i.toNat) 31) = 0 from hs32_0]
        refine r_tableIn (d := mL_law nm) (pc := 32) (tgt := 136) (off := 104) dL_law_32 (by decide) (by decide) rfl (by decide) ?_
        obtain ⟨v, I1, P1, I2, w5, w6, hL2⟩ := (hst n I P (by omega) hL).1 _ (hxs (i + 1).toNat)
        refine r_aload_n (d := mL_law nm) (pc := 136) (i := 1) (v := 0) dL_law_136 rfl rfl ?_
        refine r_aload_n (d := mL_law nm) (pc := 137) (i := 0) (v := 2000) dL_law_137 rfl rfl ?_
        refine r_iload_n (d := mL_law nm) (pc := 138) (i := 3) (v := i) dL_law_138 rfl rfl ?_
        refine r_iconst (d := mL_law nm) (pc := 139) (n := 1) dL_law_139 ?_
        refine r_iadd (d := mL_law nm) (pc := 140) dL_law_140 ?_
        refine r_scrAt (d := mL_law nm) (pc := 141) (i := (i + 1)) dL_law_141 (by omega) (by omega) ?_
        refine r_cV1 (d := mL_law nm) (pc := 142) (dj := mX5_begin) (a := 0) (kd := 5) dL_law_142 mlRL_13 inX5_begin selX5_begin rfl ly0 (by decide) okX5_begin (by decide) rfl (Nat.le_of_ble_eq_true rfl) (Nat.le_of_ble_eq_true rfl) (Nat.le_of_ble_eq_true rfl) (w5 k) ?_
        refine r_aload_n (d := mL_law nm) (pc := 145) (i := 2) (v := 155) dL_law_145 rfl rfl ?_
        refine r_aload_n (d := mL_law nm) (pc := 146) (i := 0) (v := 2000) dL_law_146 rfl rfl ?_
        refine r_iload_n (d := mL_law nm) (pc := 147) (i := 3) (v := i) dL_law_147 rfl rfl ?_
        refine r_iconst (d := mL_law nm) (pc := 148) (n := 1) dL_law_148 ?_
        refine r_iadd (d := mL_law nm) (pc := 149) dL_law_149 ?_
        refine r_scrAt (d := mL_law nm) (pc := 150) (i := (i + 1)) dL_law_150 (by omega) (by omega) ?_
        refine r_cV1 (d := mL_law nm) (pc := 151) (dj := mX6_begin) (a := 155) (kd := 6) dL_law_151 mlRL_17 inX6_begin selX6_begin rfl ly155 (by decide) okX6_begin (by decide) rfl (Nat.le_of_ble_eq_true rfl) (Nat.le_of_ble_eq_true rfl) (Nat.le_of_ble_eq_true rfl) (w6 k) ?_
        refine r_icmp_eq (d := mL_law nm) (pc := 154) (tgt := 712) dL_law_154 (by decide) (fun h154 => ?_) (fun h154 => ?_)
        · refine r_iinc (d := mL_law nm) (pc := 712) (i := 3) (v := i) (y := (i + 5)) (lv' := [(0, .inr (some 2000)), (1, .inr (some 0)), (2, .inr (some 155)), (3, .inl (i + 5))]) dL_law_712 rfl (Nat.le_of_ble_eq_true rfl) rfl rfl rfl ?_
          refine r_goto (d := mL_law nm) (pc := 715) (tgt := 18) dL_law_715 (by decide) ?_
          exact wpE (by simp) rfl (by rfl) (ih18 (f - 1) (by omega) (n + 1) (i + 5) I2 P1 hL2 (by omega) (by omega) (by omega) (by omega))
        · exact absurd rfl h154
      by_cases hs32_1 : bAnd (xs i.toNat) 31 = 1
      · rw [show (bAnd (xs i.toNat) 31) = 1 from hs32_1]
        refine r_tableIn (d := mL_law nm) (pc := 32) (tgt := 159) (off := 127) dL_law_32 (by decide) (by decide) rfl (by decide) ?_
        obtain ⟨v, I1, P1, I2, w5, w6, hL2⟩ := (hst n I P (by omega) hL).2.1 _ (hxs (i + 1).toNat) _ (hxs (i + 2).toNat)
        refine r_aload_n (d := mL_law nm) (pc := 159) (i := 1) (v := 0) dL_law_159 rfl rfl ?_
        refine r_aload_n (d := mL_law nm) (pc := 160) (i := 0) (v := 2000) dL_law_160 rfl rfl ?_
        refine r_iload_n (d := mL_law nm) (pc := 161) (i := 3) (v := i) dL_law_161 rfl rfl ?_
        refine r_iconst (d := mL_law nm) (pc := 162) (n := 1) dL_law_162 ?_
        refine r_iadd (d := mL_law nm) (pc := 163) dL_law_163 ?_
        refine r_scrAt (d := mL_law nm) (pc := 164) (i := (i + 1)) dL_law_164 (by omega) (by omega) ?_
        refine r_aload_n (d := mL_law nm) (pc := 165) (i := 0) (v := 2000) dL_law_165 rfl rfl ?_
        refine r_iload_n (d := mL_law nm) (pc := 166) (i := 3) (v := i) dL_law_166 rfl rfl ?_
        refine r_iconst (d := mL_law nm) (pc := 167) (n := 2) dL_law_167 ?_
        refine r_iadd (d := mL_law nm) (pc := 168) dL_law_168 ?_
        refine r_scrAt (d := mL_law nm) (pc := 169) (i := (i + 2)) dL_law_169 (by omega) (by omega) ?_
        refine r_cV2 (d := mL_law nm) (pc := 170) (dj := mX5_put) (a := 0) (kd := 5) dL_law_170 mlRL_18 inX5_put selX5_put rfl ly0 (by decide) okX5_put (by decide) rfl (Nat.le_of_ble_eq_true rfl) (Nat.le_of_ble_eq_true rfl) (Nat.le_of_ble_eq_true rfl) (w5 k) ?_
        refine r_aload_n (d := mL_law nm) (pc := 173) (i := 2) (v := 155) dL_law_173 rfl rfl ?_
        refine r_aload_n (d := mL_law nm) (pc := 174) (i := 0) (v := 2000) dL_law_174 rfl rfl ?_
        refine r_iload_n (d := mL_law nm) (pc := 175) (i := 3) (v := i) dL_law_175 rfl rfl ?_
        refine r_iconst (d := mL_law nm) (pc := 176) (n := 1) dL_law_176 ?_
        refine r_iadd (d := mL_law nm) (pc := 177) dL_law_177 ?_
        refine r_scrAt (d := mL_law nm) (pc := 178) (i := (i + 1)) dL_law_178 (by omega) (by omega) ?_
        refine r_aload_n (d := mL_law nm) (pc := 179) (i := 0) (v := 2000) dL_law_179 rfl rfl ?_
        refine r_iload_n (d := mL_law nm) (pc := 180) (i := 3) (v := i) dL_law_180 rfl rfl ?_
        refine r_iconst (d := mL_law nm) (pc := 181) (n := 2) dL_law_181 ?_
        refine r_iadd (d := mL_law nm) (pc := 182) dL_law_182 ?_
        refine r_scrAt (d := mL_law nm) (pc := 183) (i := (i + 2)) dL_law_183 (by omega) (by omega) ?_
        refine r_cV2 (d := mL_law nm) (pc := 184) (dj := mX6_put) (a := 155) (kd := 6) dL_law_184 mlRL_22 inX6_put selX6_put rfl ly155 (by decide) okX6_put (by decide) rfl (Nat.le_of_ble_eq_true rfl) (Nat.le_of_ble_eq_true rfl) (Nat.le_of_ble_eq_true rfl) (w6 k) ?_
        refine r_icmp_eq (d := mL_law nm) (pc := 187) (tgt := 712) dL_law_187 (by decide) (fun h187 => ?_) (fun h187 => ?_)
        · refine r_iinc (d := mL_law nm) (pc := 712) (i := 3) (v := i) (y := (i + 5)) (lv' := [(0, .inr (some 2000)), (1, .inr (some 0)), (2, .inr (some 155)), (3, .inl (i + 5))]) dL_law_712 rfl (Nat.le_of_ble_eq_true rfl) rfl rfl rfl ?_
          refine r_goto (d := mL_law nm) (pc := 715) (tgt := 18) dL_law_715 (by decide) ?_
          exact wpE (by simp) rfl (by rfl) (ih18 (f - 1) (by omega) (n + 1) (i + 5) I2 P1 hL2 (by omega) (by omega) (by omega) (by omega))
        · exact absurd rfl h187
      by_cases hs32_2 : bAnd (xs i.toNat) 31 = 2
      · rw [show (bAnd (xs i.toNat) 31) = 2 from hs32_2]
        refine r_tableIn (d := mL_law nm) (pc := 32) (tgt := 192) (off := 160) dL_law_32 (by decide) (by decide) rfl (by decide) ?_
        obtain ⟨v, I1, P1, I2, w5, w6, hL2⟩ := (hst n I P (by omega) hL).2.2.1 _ (hxs (i + 1).toNat) _ (hxs (i + 2).toNat)
        refine r_aload_n (d := mL_law nm) (pc := 192) (i := 1) (v := 0) dL_law_192 rfl rfl ?_
        refine r_aload_n (d := mL_law nm) (pc := 193) (i := 0) (v := 2000) dL_law_193 rfl rfl ?_
        refine r_iload_n (d := mL_law nm) (pc := 194) (i := 3) (v := i) dL_law_194 rfl rfl ?_
        refine r_iconst (d := mL_law nm) (pc := 195) (n := 1) dL_law_195 ?_
        refine r_iadd (d := mL_law nm) (pc := 196) dL_law_196 ?_
        refine r_scrAt (d := mL_law nm) (pc := 197) (i := (i + 1)) dL_law_197 (by omega) (by omega) ?_
        refine r_aload_n (d := mL_law nm) (pc := 198) (i := 0) (v := 2000) dL_law_198 rfl rfl ?_
        refine r_iload_n (d := mL_law nm) (pc := 199) (i := 3) (v := i) dL_law_199 rfl rfl ?_
        refine r_iconst (d := mL_law nm) (pc := 200) (n := 2) dL_law_200 ?_
        refine r_iadd (d := mL_law nm) (pc := 201) dL_law_201 ?_
        refine r_scrAt (d := mL_law nm) (pc := 202) (i := (i + 2)) dL_law_202 (by omega) (by omega) ?_
        refine r_cV2 (d := mL_law nm) (pc := 203) (dj := mX5_copy) (a := 0) (kd := 5) dL_law_203 mlRL_23 inX5_copy selX5_copy rfl ly0 (by decide) okX5_copy (by decide) rfl (Nat.le_of_ble_eq_true rfl) (Nat.le_of_ble_eq_true rfl) (Nat.le_of_ble_eq_true rfl) (w5 k) ?_
        refine r_aload_n (d := mL_law nm) (pc := 206) (i := 2) (v := 155) dL_law_206 rfl rfl ?_
        refine r_aload_n (d := mL_law nm) (pc := 207) (i := 0) (v := 2000) dL_law_207 rfl rfl ?_
        refine r_iload_n (d := mL_law nm) (pc := 208) (i := 3) (v := i) dL_law_208 rfl rfl ?_
        refine r_iconst (d := mL_law nm) (pc := 209) (n := 1) dL_law_209 ?_
        refine r_iadd (d := mL_law nm) (pc := 210) dL_law_210 ?_
        refine r_scrAt (d := mL_law nm) (pc := 211) (i := (i + 1)) dL_law_211 (by omega) (by omega) ?_
        refine r_aload_n (d := mL_law nm) (pc := 212) (i := 0) (v := 2000) dL_law_212 rfl rfl ?_
        refine r_iload_n (d := mL_law nm) (pc := 213) (i := 3) (v := i) dL_law_213 rfl rfl ?_
        refine r_iconst (d := mL_law nm) (pc := 214) (n := 2) dL_law_214 ?_
        refine r_iadd (d := mL_law nm) (pc := 215) dL_law_215 ?_
        refine r_scrAt (d := mL_law nm) (pc := 216) (i := (i + 2)) dL_law_216 (by omega) (by omega) ?_
        refine r_cV2 (d := mL_law nm) (pc := 217) (dj := mX6_copy) (a := 155) (kd := 6) dL_law_217 mlRL_26 inX6_copy selX6_copy rfl ly155 (by decide) okX6_copy (by decide) rfl (Nat.le_of_ble_eq_true rfl) (Nat.le_of_ble_eq_true rfl) (Nat.le_of_ble_eq_true rfl) (w6 k) ?_
        refine r_icmp_eq (d := mL_law nm) (pc := 220) (tgt := 712) dL_law_220 (by decide) (fun h220 => ?_) (fun h220 => ?_)
        · refine r_iinc (d := mL_law nm) (pc := 712) (i := 3) (v := i) (y := (i + 5)) (lv' := [(0, .inr (some 2000)), (1, .inr (some 0)), (2, .inr (some 155)), (3, .inl (i + 5))]) dL_law_712 rfl (Nat.le_of_ble_eq_true rfl) rfl rfl rfl ?_
          refine r_goto (d := mL_law nm) (pc := 715) (tgt := 18) dL_law_715 (by decide) ?_
          exact wpE (by simp) rfl (by rfl) (ih18 (f - 1) (by omega) (n + 1) (i + 5) I2 P1 hL2 (by omega) (by omega) (by omega) (by omega))
        · exact absurd rfl h220
      by_cases hs32_3 : bAnd (xs i.toNat) 31 = 3
      · rw [show (bAnd (xs i.toNat) 31) = 3 from hs32_3]
        refine r_tableIn (d := mL_law nm) (pc := 32) (tgt := 225) (off := 193) dL_law_32 (by decide) (by decide) rfl (by decide) ?_
        obtain ⟨v, I1, P1, I2, w5, w6, hL2⟩ := (hst n I P (by omega) hL).2.2.2.1 _ (hxs (i + 1).toNat) _ (hxs (i + 2).toNat) _ (hxs (i + 3).toNat) _ (hxs (i + 4).toNat)
        refine r_aload_n (d := mL_law nm) (pc := 225) (i := 1) (v := 0) dL_law_225 rfl rfl ?_
        refine r_aload_n (d := mL_law nm) (pc := 226) (i := 0) (v := 2000) dL_law_226 rfl rfl ?_
        refine r_iload_n (d := mL_law nm) (pc := 227) (i := 3) (v := i) dL_law_227 rfl rfl ?_
        refine r_iconst (d := mL_law nm) (pc := 228) (n := 1) dL_law_228 ?_
        refine r_iadd (d := mL_law nm) (pc := 229) dL_law_229 ?_
        refine r_scrAt (d := mL_law nm) (pc := 230) (i := (i + 1)) dL_law_230 (by omega) (by omega) ?_
        refine r_aload_n (d := mL_law nm) (pc := 231) (i := 0) (v := 2000) dL_law_231 rfl rfl ?_
        refine r_iload_n (d := mL_law nm) (pc := 232) (i := 3) (v := i) dL_law_232 rfl rfl ?_
        refine r_iconst (d := mL_law nm) (pc := 233) (n := 2) dL_law_233 ?_
        refine r_iadd (d := mL_law nm) (pc := 234) dL_law_234 ?_
        refine r_scrAt (d := mL_law nm) (pc := 235) (i := (i + 2)) dL_law_235 (by omega) (by omega) ?_
        refine r_aload_n (d := mL_law nm) (pc := 236) (i := 0) (v := 2000) dL_law_236 rfl rfl ?_
        refine r_iload_n (d := mL_law nm) (pc := 237) (i := 3) (v := i) dL_law_237 rfl rfl ?_
        refine r_iconst (d := mL_law nm) (pc := 238) (n := 3) dL_law_238 ?_
        refine r_iadd (d := mL_law nm) (pc := 239) dL_law_239 ?_
        refine r_scrAt (d := mL_law nm) (pc := 240) (i := (i + 3)) dL_law_240 (by omega) (by omega) ?_
        refine r_aload_n (d := mL_law nm) (pc := 241) (i := 0) (v := 2000) dL_law_241 rfl rfl ?_
        refine r_iload_n (d := mL_law nm) (pc := 242) (i := 3) (v := i) dL_law_242 rfl rfl ?_
        refine r_iconst (d := mL_law nm) (pc := 243) (n := 4) dL_law_243 ?_
        refine r_iadd (d := mL_law nm) (pc := 244) dL_law_244 ?_
        refine r_scrAt (d := mL_law nm) (pc := 245) (i := (i + 4)) dL_law_245 (by omega) (by omega) ?_
        refine r_cV4 (d := mL_law nm) (pc := 246) (dj := mX5_order) (a := 0) (kd := 5) dL_law_246 mlRL_27 inX5_order selX5_order rfl ly0 (by decide) okX5_order (by decide) rfl (Nat.le_of_ble_eq_true rfl) (Nat.le_of_ble_eq_true rfl) (Nat.le_of_ble_eq_true rfl) (w5 k) ?_
        refine r_aload_n (d := mL_law nm) (pc := 249) (i := 2) (v := 155) dL_law_249 rfl rfl ?_
        refine r_aload_n (d := mL_law nm) (pc := 250) (i := 0) (v := 2000) dL_law_250 rfl rfl ?_
        refine r_iload_n (d := mL_law nm) (pc := 251) (i := 3) (v := i) dL_law_251 rfl rfl ?_
        refine r_iconst (d := mL_law nm) (pc := 252) (n := 1) dL_law_252 ?_
        refine r_iadd (d := mL_law nm) (pc := 253) dL_law_253 ?_
        refine r_scrAt (d := mL_law nm) (pc := 254) (i := (i + 1)) dL_law_254 (by omega) (by omega) ?_
        refine r_aload_n (d := mL_law nm) (pc := 255) (i := 0) (v := 2000) dL_law_255 rfl rfl ?_
        refine r_iload_n (d := mL_law nm) (pc := 256) (i := 3) (v := i) dL_law_256 rfl rfl ?_
        refine r_iconst (d := mL_law nm) (pc := 257) (n := 2) dL_law_257 ?_
        refine r_iadd (d := mL_law nm) (pc := 258) dL_law_258 ?_
        refine r_scrAt (d := mL_law nm) (pc := 259) (i := (i + 2)) dL_law_259 (by omega) (by omega) ?_
        refine r_aload_n (d := mL_law nm) (pc := 260) (i := 0) (v := 2000) dL_law_260 rfl rfl ?_
        refine r_iload_n (d := mL_law nm) (pc := 261) (i := 3) (v := i) dL_law_261 rfl rfl ?_
        refine r_iconst (d := mL_law nm) (pc := 262) (n := 3) dL_law_262 ?_
        refine r_iadd (d := mL_law nm) (pc := 263) dL_law_263 ?_
        refine r_scrAt (d := mL_law nm) (pc := 264) (i := (i + 3)) dL_law_264 (by omega) (by omega) ?_
        refine r_aload_n (d := mL_law nm) (pc := 265) (i := 0) (v := 2000) dL_law_265 rfl rfl ?_
        refine r_iload_n (d := mL_law nm) (pc := 266) (i := 3) (v := i) dL_law_266 rfl rfl ?_
        refine r_iconst (d := mL_law nm) (pc := 267) (n := 4) dL_law_267 ?_
        refine r_iadd (d := mL_law nm) (pc := 268) dL_law_268 ?_
        refine r_scrAt (d := mL_law nm) (pc := 269) (i := (i + 4)) dL_law_269 (by omega) (by omega) ?_
        refine r_cV4 (d := mL_law nm) (pc := 270) (dj := mX6_order) (a := 155) (kd := 6) dL_law_270 mlRL_31 inX6_order selX6_order rfl ly155 (by decide) okX6_order (by decide) rfl (Nat.le_of_ble_eq_true rfl) (Nat.le_of_ble_eq_true rfl) (Nat.le_of_ble_eq_true rfl) (w6 k) ?_
        refine r_icmp_eq (d := mL_law nm) (pc := 273) (tgt := 712) dL_law_273 (by decide) (fun h273 => ?_) (fun h273 => ?_)
        · refine r_iinc (d := mL_law nm) (pc := 712) (i := 3) (v := i) (y := (i + 5)) (lv' := [(0, .inr (some 2000)), (1, .inr (some 0)), (2, .inr (some 155)), (3, .inl (i + 5))]) dL_law_712 rfl (Nat.le_of_ble_eq_true rfl) rfl rfl rfl ?_
          refine r_goto (d := mL_law nm) (pc := 715) (tgt := 18) dL_law_715 (by decide) ?_
          exact wpE (by simp) rfl (by rfl) (ih18 (f - 1) (by omega) (n + 1) (i + 5) I2 P1 hL2 (by omega) (by omega) (by omega) (by omega))
        · exact absurd rfl h273
      by_cases hs32_4 : bAnd (xs i.toNat) 31 = 4
      · rw [show (bAnd (xs i.toNat) 31) = 4 from hs32_4]
        refine r_tableIn (d := mL_law nm) (pc := 32) (tgt := 278) (off := 246) dL_law_32 (by decide) (by decide) rfl (by decide) ?_
        obtain ⟨v, I1, P1, I2, w5, w6, hL2⟩ := (hst n I P (by omega) hL).2.2.2.2.1 _ (hxs (i + 1).toNat)
        refine r_aload_n (d := mL_law nm) (pc := 278) (i := 1) (v := 0) dL_law_278 rfl rfl ?_
        refine r_aload_n (d := mL_law nm) (pc := 279) (i := 0) (v := 2000) dL_law_279 rfl rfl ?_
        refine r_iload_n (d := mL_law nm) (pc := 280) (i := 3) (v := i) dL_law_280 rfl rfl ?_
        refine r_iconst (d := mL_law nm) (pc := 281) (n := 1) dL_law_281 ?_
        refine r_iadd (d := mL_law nm) (pc := 282) dL_law_282 ?_
        refine r_scrAt (d := mL_law nm) (pc := 283) (i := (i + 1)) dL_law_283 (by omega) (by omega) ?_
        refine r_cV1 (d := mL_law nm) (pc := 284) (dj := mX5_tick) (a := 0) (kd := 5) dL_law_284 mlRL_32 inX5_tick selX5_tick rfl ly0 (by decide) okX5_tick (by decide) rfl (Nat.le_of_ble_eq_true rfl) (Nat.le_of_ble_eq_true rfl) (Nat.le_of_ble_eq_true rfl) (w5 k) ?_
        refine r_aload_n (d := mL_law nm) (pc := 287) (i := 2) (v := 155) dL_law_287 rfl rfl ?_
        refine r_aload_n (d := mL_law nm) (pc := 288) (i := 0) (v := 2000) dL_law_288 rfl rfl ?_
        refine r_iload_n (d := mL_law nm) (pc := 289) (i := 3) (v := i) dL_law_289 rfl rfl ?_
        refine r_iconst (d := mL_law nm) (pc := 290) (n := 1) dL_law_290 ?_
        refine r_iadd (d := mL_law nm) (pc := 291) dL_law_291 ?_
        refine r_scrAt (d := mL_law nm) (pc := 292) (i := (i + 1)) dL_law_292 (by omega) (by omega) ?_
        refine r_cV1 (d := mL_law nm) (pc := 293) (dj := mX6_tick) (a := 155) (kd := 6) dL_law_293 mlRL_35 inX6_tick selX6_tick rfl ly155 (by decide) okX6_tick (by decide) rfl (Nat.le_of_ble_eq_true rfl) (Nat.le_of_ble_eq_true rfl) (Nat.le_of_ble_eq_true rfl) (w6 k) ?_
        refine r_icmp_eq (d := mL_law nm) (pc := 296) (tgt := 712) dL_law_296 (by decide) (fun h296 => ?_) (fun h296 => ?_)
        · refine r_iinc (d := mL_law nm) (pc := 712) (i := 3) (v := i) (y := (i + 5)) (lv' := [(0, .inr (some 2000)), (1, .inr (some 0)), (2, .inr (some 155)), (3, .inl (i + 5))]) dL_law_712 rfl (Nat.le_of_ble_eq_true rfl) rfl rfl rfl ?_
          refine r_goto (d := mL_law nm) (pc := 715) (tgt := 18) dL_law_715 (by decide) ?_
          exact wpE (by simp) rfl (by rfl) (ih18 (f - 1) (by omega) (n + 1) (i + 5) I2 P1 hL2 (by omega) (by omega) (by omega) (by omega))
        · exact absurd rfl h296
      by_cases hs32_5 : bAnd (xs i.toNat) 31 = 5
      · rw [show (bAnd (xs i.toNat) 31) = 5 from hs32_5]
        refine r_tableIn (d := mL_law nm) (pc := 32) (tgt := 301) (off := 269) dL_law_32 (by decide) (by decide) rfl (by decide) ?_
        obtain ⟨v, I1, P1, I2, w5, w6, hL2⟩ := (hst n I P (by omega) hL).2.2.2.2.2.1 _ (hxs (i + 1).toNat) _ (hxs (i + 2).toNat)
        refine r_aload_n (d := mL_law nm) (pc := 301) (i := 1) (v := 0) dL_law_301 rfl rfl ?_
        refine r_aload_n (d := mL_law nm) (pc := 302) (i := 0) (v := 2000) dL_law_302 rfl rfl ?_
        refine r_iload_n (d := mL_law nm) (pc := 303) (i := 3) (v := i) dL_law_303 rfl rfl ?_
        refine r_iconst (d := mL_law nm) (pc := 304) (n := 1) dL_law_304 ?_
        refine r_iadd (d := mL_law nm) (pc := 305) dL_law_305 ?_
        refine r_scrAt (d := mL_law nm) (pc := 306) (i := (i + 1)) dL_law_306 (by omega) (by omega) ?_
        refine r_aload_n (d := mL_law nm) (pc := 307) (i := 0) (v := 2000) dL_law_307 rfl rfl ?_
        refine r_iload_n (d := mL_law nm) (pc := 308) (i := 3) (v := i) dL_law_308 rfl rfl ?_
        refine r_iconst (d := mL_law nm) (pc := 309) (n := 2) dL_law_309 ?_
        refine r_iadd (d := mL_law nm) (pc := 310) dL_law_310 ?_
        refine r_scrAt (d := mL_law nm) (pc := 311) (i := (i + 2)) dL_law_311 (by omega) (by omega) ?_
        refine r_cV2 (d := mL_law nm) (pc := 312) (dj := mX5_set) (a := 0) (kd := 5) dL_law_312 mlRL_36 inX5_set selX5_set rfl ly0 (by decide) okX5_set (by decide) rfl (Nat.le_of_ble_eq_true rfl) (Nat.le_of_ble_eq_true rfl) (Nat.le_of_ble_eq_true rfl) (w5 k) ?_
        refine r_aload_n (d := mL_law nm) (pc := 315) (i := 2) (v := 155) dL_law_315 rfl rfl ?_
        refine r_aload_n (d := mL_law nm) (pc := 316) (i := 0) (v := 2000) dL_law_316 rfl rfl ?_
        refine r_iload_n (d := mL_law nm) (pc := 317) (i := 3) (v := i) dL_law_317 rfl rfl ?_
        refine r_iconst (d := mL_law nm) (pc := 318) (n := 1) dL_law_318 ?_
        refine r_iadd (d := mL_law nm) (pc := 319) dL_law_319 ?_
        refine r_scrAt (d := mL_law nm) (pc := 320) (i := (i + 1)) dL_law_320 (by omega) (by omega) ?_
        refine r_aload_n (d := mL_law nm) (pc := 321) (i := 0) (v := 2000) dL_law_321 rfl rfl ?_
        refine r_iload_n (d := mL_law nm) (pc := 322) (i := 3) (v := i) dL_law_322 rfl rfl ?_
        refine r_iconst (d := mL_law nm) (pc := 323) (n := 2) dL_law_323 ?_
        refine r_iadd (d := mL_law nm) (pc := 324) dL_law_324 ?_
        refine r_scrAt (d := mL_law nm) (pc := 325) (i := (i + 2)) dL_law_325 (by omega) (by omega) ?_
        refine r_cV2 (d := mL_law nm) (pc := 326) (dj := mX6_set) (a := 155) (kd := 6) dL_law_326 mlRL_39 inX6_set selX6_set rfl ly155 (by decide) okX6_set (by decide) rfl (Nat.le_of_ble_eq_true rfl) (Nat.le_of_ble_eq_true rfl) (Nat.le_of_ble_eq_true rfl) (w6 k) ?_
        refine r_icmp_eq (d := mL_law nm) (pc := 329) (tgt := 712) dL_law_329 (by decide) (fun h329 => ?_) (fun h329 => ?_)
        · refine r_iinc (d := mL_law nm) (pc := 712) (i := 3) (v := i) (y := (i + 5)) (lv' := [(0, .inr (some 2000)), (1, .inr (some 0)), (2, .inr (some 155)), (3, .inl (i + 5))]) dL_law_712 rfl (Nat.le_of_ble_eq_true rfl) rfl rfl rfl ?_
          refine r_goto (d := mL_law nm) (pc := 715) (tgt := 18) dL_law_715 (by decide) ?_
          exact wpE (by simp) rfl (by rfl) (ih18 (f - 1) (by omega) (n + 1) (i + 5) I2 P1 hL2 (by omega) (by omega) (by omega) (by omega))
        · exact absurd rfl h329
      by_cases hs32_6 : bAnd (xs i.toNat) 31 = 6
      · rw [show (bAnd (xs i.toNat) 31) = 6 from hs32_6]
        refine r_tableIn (d := mL_law nm) (pc := 32) (tgt := 334) (off := 302) dL_law_32 (by decide) (by decide) rfl (by decide) ?_
        obtain ⟨v, I1, P1, I2, w5, w6, hL2⟩ := (hst n I P (by omega) hL).2.2.2.2.2.2.1 
        refine r_aload_n (d := mL_law nm) (pc := 334) (i := 1) (v := 0) dL_law_334 rfl rfl ?_
        refine r_cV0 (d := mL_law nm) (pc := 335) (dj := mX5_mark) (a := 0) (kd := 5) dL_law_335 mlRL_40 inX5_mark selX5_mark rfl ly0 (by decide) okX5_mark (by decide) rfl (Nat.le_of_ble_eq_true rfl) (Nat.le_of_ble_eq_true rfl) (Nat.le_of_ble_eq_true rfl) (w5 k) ?_
        refine r_aload_n (d := mL_law nm) (pc := 338) (i := 2) (v := 155) dL_law_338 rfl rfl ?_
        refine r_cV0 (d := mL_law nm) (pc := 339) (dj := mX6_mark) (a := 155) (kd := 6) dL_law_339 mlRL_44 inX6_mark selX6_mark rfl ly155 (by decide) okX6_mark (by decide) rfl (Nat.le_of_ble_eq_true rfl) (Nat.le_of_ble_eq_true rfl) (Nat.le_of_ble_eq_true rfl) (w6 k) ?_
        refine r_icmp_eq (d := mL_law nm) (pc := 342) (tgt := 712) dL_law_342 (by decide) (fun h342 => ?_) (fun h342 => ?_)
        · refine r_iinc (d := mL_law nm) (pc := 712) (i := 3) (v := i) (y := (i + 5)) (lv' := [(0, .inr (some 2000)), (1, .inr (some 0)), (2, .inr (some 155)), (3, .inl (i + 5))]) dL_law_712 rfl (Nat.le_of_ble_eq_true rfl) rfl rfl rfl ?_
          refine r_goto (d := mL_law nm) (pc := 715) (tgt := 18) dL_law_715 (by decide) ?_
          exact wpE (by simp) rfl (by rfl) (ih18 (f - 1) (by omega) (n + 1) (i + 5) I2 P1 hL2 (by omega) (by omega) (by omega) (by omega))
        · exact absurd rfl h342
      by_cases hs32_7 : bAnd (xs i.toNat) 31 = 7
      · rw [show (bAnd (xs i.toNat) 31) = 7 from hs32_7]
        refine r_tableIn (d := mL_law nm) (pc := 32) (tgt := 347) (off := 315) dL_law_32 (by decide) (by decide) rfl (by decide) ?_
        obtain ⟨v, I1, P1, I2, w5, w6, hL2⟩ := (hst n I P (by omega) hL).2.2.2.2.2.2.2.1 
        refine r_aload_n (d := mL_law nm) (pc := 347) (i := 1) (v := 0) dL_law_347 rfl rfl ?_
        refine r_cV0 (d := mL_law nm) (pc := 348) (dj := mX5_keep) (a := 0) (kd := 5) dL_law_348 mlRL_45 inX5_keep selX5_keep rfl ly0 (by decide) okX5_keep (by decide) rfl (Nat.le_of_ble_eq_true rfl) (Nat.le_of_ble_eq_true rfl) (Nat.le_of_ble_eq_true rfl) (w5 k) ?_
        refine r_aload_n (d := mL_law nm) (pc := 351) (i := 2) (v := 155) dL_law_351 rfl rfl ?_
        refine r_cV0 (d := mL_law nm) (pc := 352) (dj := mX6_keep) (a := 155) (kd := 6) dL_law_352 mlRL_48 inX6_keep selX6_keep rfl ly155 (by decide) okX6_keep (by decide) rfl (Nat.le_of_ble_eq_true rfl) (Nat.le_of_ble_eq_true rfl) (Nat.le_of_ble_eq_true rfl) (w6 k) ?_
        refine r_icmp_eq (d := mL_law nm) (pc := 355) (tgt := 712) dL_law_355 (by decide) (fun h355 => ?_) (fun h355 => ?_)
        · refine r_iinc (d := mL_law nm) (pc := 712) (i := 3) (v := i) (y := (i + 5)) (lv' := [(0, .inr (some 2000)), (1, .inr (some 0)), (2, .inr (some 155)), (3, .inl (i + 5))]) dL_law_712 rfl (Nat.le_of_ble_eq_true rfl) rfl rfl rfl ?_
          refine r_goto (d := mL_law nm) (pc := 715) (tgt := 18) dL_law_715 (by decide) ?_
          exact wpE (by simp) rfl (by rfl) (ih18 (f - 1) (by omega) (n + 1) (i + 5) I2 P1 hL2 (by omega) (by omega) (by omega) (by omega))
        · exact absurd rfl h355
      by_cases hs32_8 : bAnd (xs i.toNat) 31 = 8
      · rw [show (bAnd (xs i.toNat) 31) = 8 from hs32_8]
        refine r_tableIn (d := mL_law nm) (pc := 32) (tgt := 360) (off := 328) dL_law_32 (by decide) (by decide) rfl (by decide) ?_
        obtain ⟨v, I1, P1, I2, w5, w6, hL2⟩ := (hst n I P (by omega) hL).2.2.2.2.2.2.2.2.1 _ (hxs (i + 1).toNat)
        refine r_aload_n (d := mL_law nm) (pc := 360) (i := 1) (v := 0) dL_law_360 rfl rfl ?_
        refine r_aload_n (d := mL_law nm) (pc := 361) (i := 0) (v := 2000) dL_law_361 rfl rfl ?_
        refine r_iload_n (d := mL_law nm) (pc := 362) (i := 3) (v := i) dL_law_362 rfl rfl ?_
        refine r_iconst (d := mL_law nm) (pc := 363) (n := 1) dL_law_363 ?_
        refine r_iadd (d := mL_law nm) (pc := 364) dL_law_364 ?_
        refine r_scrAt (d := mL_law nm) (pc := 365) (i := (i + 1)) dL_law_365 (by omega) (by omega) ?_
        refine r_cV1 (d := mL_law nm) (pc := 366) (dj := mX5_back) (a := 0) (kd := 5) dL_law_366 mlRL_49 inX5_back selX5_back rfl ly0 (by decide) okX5_back (by decide) rfl (Nat.le_of_ble_eq_true rfl) (Nat.le_of_ble_eq_true rfl) (Nat.le_of_ble_eq_true rfl) (w5 k) ?_
        refine r_aload_n (d := mL_law nm) (pc := 369) (i := 2) (v := 155) dL_law_369 rfl rfl ?_
        refine r_aload_n (d := mL_law nm) (pc := 370) (i := 0) (v := 2000) dL_law_370 rfl rfl ?_
        refine r_iload_n (d := mL_law nm) (pc := 371) (i := 3) (v := i) dL_law_371 rfl rfl ?_
        refine r_iconst (d := mL_law nm) (pc := 372) (n := 1) dL_law_372 ?_
        refine r_iadd (d := mL_law nm) (pc := 373) dL_law_373 ?_
        refine r_scrAt (d := mL_law nm) (pc := 374) (i := (i + 1)) dL_law_374 (by omega) (by omega) ?_
        refine r_cV1 (d := mL_law nm) (pc := 375) (dj := mX6_back) (a := 155) (kd := 6) dL_law_375 mlRL_52 inX6_back selX6_back rfl ly155 (by decide) okX6_back (by decide) rfl (Nat.le_of_ble_eq_true rfl) (Nat.le_of_ble_eq_true rfl) (Nat.le_of_ble_eq_true rfl) (w6 k) ?_
        refine r_icmp_eq (d := mL_law nm) (pc := 378) (tgt := 712) dL_law_378 (by decide) (fun h378 => ?_) (fun h378 => ?_)
        · refine r_iinc (d := mL_law nm) (pc := 712) (i := 3) (v := i) (y := (i + 5)) (lv' := [(0, .inr (some 2000)), (1, .inr (some 0)), (2, .inr (some 155)), (3, .inl (i + 5))]) dL_law_712 rfl (Nat.le_of_ble_eq_true rfl) rfl rfl rfl ?_
          refine r_goto (d := mL_law nm) (pc := 715) (tgt := 18) dL_law_715 (by decide) ?_
          exact wpE (by simp) rfl (by rfl) (ih18 (f - 1) (by omega) (n + 1) (i + 5) I2 P1 hL2 (by omega) (by omega) (by omega) (by omega))
        · exact absurd rfl h378
      by_cases hs32_9 : bAnd (xs i.toNat) 31 = 9
      · rw [show (bAnd (xs i.toNat) 31) = 9 from hs32_9]
        refine r_tableIn (d := mL_law nm) (pc := 32) (tgt := 383) (off := 351) dL_law_32 (by decide) (by decide) rfl (by decide) ?_
        obtain ⟨v, I1, P1, I2, w5, w6, hL2⟩ := (hst n I P (by omega) hL).2.2.2.2.2.2.2.2.2.1 _ (hxs (i + 1).toNat) _ (hxs (i + 2).toNat) _ (hxs (i + 3).toNat)
        refine r_aload_n (d := mL_law nm) (pc := 383) (i := 1) (v := 0) dL_law_383 rfl rfl ?_
        refine r_aload_n (d := mL_law nm) (pc := 384) (i := 0) (v := 2000) dL_law_384 rfl rfl ?_
        refine r_iload_n (d := mL_law nm) (pc := 385) (i := 3) (v := i) dL_law_385 rfl rfl ?_
        refine r_iconst (d := mL_law nm) (pc := 386) (n := 1) dL_law_386 ?_
        refine r_iadd (d := mL_law nm) (pc := 387) dL_law_387 ?_
        refine r_scrAt (d := mL_law nm) (pc := 388) (i := (i + 1)) dL_law_388 (by omega) (by omega) ?_
        refine r_aload_n (d := mL_law nm) (pc := 389) (i := 0) (v := 2000) dL_law_389 rfl rfl ?_
        refine r_iload_n (d := mL_law nm) (pc := 390) (i := 3) (v := i) dL_law_390 rfl rfl ?_
        refine r_iconst (d := mL_law nm) (pc := 391) (n := 2) dL_law_391 ?_
        refine r_iadd (d := mL_law nm) (pc := 392) dL_law_392 ?_
        refine r_scrAt (d := mL_law nm) (pc := 393) (i := (i + 2)) dL_law_393 (by omega) (by omega) ?_
        refine r_aload_n (d := mL_law nm) (pc := 394) (i := 0) (v := 2000) dL_law_394 rfl rfl ?_
        refine r_iload_n (d := mL_law nm) (pc := 395) (i := 3) (v := i) dL_law_395 rfl rfl ?_
        refine r_iconst (d := mL_law nm) (pc := 396) (n := 3) dL_law_396 ?_
        refine r_iadd (d := mL_law nm) (pc := 397) dL_law_397 ?_
        refine r_scrAt (d := mL_law nm) (pc := 398) (i := (i + 3)) dL_law_398 (by omega) (by omega) ?_
        refine r_cV3 (d := mL_law nm) (pc := 399) (dj := mX5_markOf) (a := 0) (kd := 5) dL_law_399 mlRL_53 inX5_markOf selX5_markOf rfl ly0 (by decide) okX5_markOf (by decide) rfl (Nat.le_of_ble_eq_true rfl) (Nat.le_of_ble_eq_true rfl) (Nat.le_of_ble_eq_true rfl) (w5 k) ?_
        refine r_aload_n (d := mL_law nm) (pc := 402) (i := 2) (v := 155) dL_law_402 rfl rfl ?_
        refine r_aload_n (d := mL_law nm) (pc := 403) (i := 0) (v := 2000) dL_law_403 rfl rfl ?_
        refine r_iload_n (d := mL_law nm) (pc := 404) (i := 3) (v := i) dL_law_404 rfl rfl ?_
        refine r_iconst (d := mL_law nm) (pc := 405) (n := 1) dL_law_405 ?_
        refine r_iadd (d := mL_law nm) (pc := 406) dL_law_406 ?_
        refine r_scrAt (d := mL_law nm) (pc := 407) (i := (i + 1)) dL_law_407 (by omega) (by omega) ?_
        refine r_aload_n (d := mL_law nm) (pc := 408) (i := 0) (v := 2000) dL_law_408 rfl rfl ?_
        refine r_iload_n (d := mL_law nm) (pc := 409) (i := 3) (v := i) dL_law_409 rfl rfl ?_
        refine r_iconst (d := mL_law nm) (pc := 410) (n := 2) dL_law_410 ?_
        refine r_iadd (d := mL_law nm) (pc := 411) dL_law_411 ?_
        refine r_scrAt (d := mL_law nm) (pc := 412) (i := (i + 2)) dL_law_412 (by omega) (by omega) ?_
        refine r_aload_n (d := mL_law nm) (pc := 413) (i := 0) (v := 2000) dL_law_413 rfl rfl ?_
        refine r_iload_n (d := mL_law nm) (pc := 414) (i := 3) (v := i) dL_law_414 rfl rfl ?_
        refine r_iconst (d := mL_law nm) (pc := 415) (n := 3) dL_law_415 ?_
        refine r_iadd (d := mL_law nm) (pc := 416) dL_law_416 ?_
        refine r_scrAt (d := mL_law nm) (pc := 417) (i := (i + 3)) dL_law_417 (by omega) (by omega) ?_
        refine r_cV3 (d := mL_law nm) (pc := 418) (dj := mX6_markOf) (a := 155) (kd := 6) dL_law_418 mlRL_57 inX6_markOf selX6_markOf rfl ly155 (by decide) okX6_markOf (by decide) rfl (Nat.le_of_ble_eq_true rfl) (Nat.le_of_ble_eq_true rfl) (Nat.le_of_ble_eq_true rfl) (w6 k) ?_
        refine r_icmp_eq (d := mL_law nm) (pc := 421) (tgt := 712) dL_law_421 (by decide) (fun h421 => ?_) (fun h421 => ?_)
        · refine r_iinc (d := mL_law nm) (pc := 712) (i := 3) (v := i) (y := (i + 5)) (lv' := [(0, .inr (some 2000)), (1, .inr (some 0)), (2, .inr (some 155)), (3, .inl (i + 5))]) dL_law_712 rfl (Nat.le_of_ble_eq_true rfl) rfl rfl rfl ?_
          refine r_goto (d := mL_law nm) (pc := 715) (tgt := 18) dL_law_715 (by decide) ?_
          exact wpE (by simp) rfl (by rfl) (ih18 (f - 1) (by omega) (n + 1) (i + 5) I2 P1 hL2 (by omega) (by omega) (by omega) (by omega))
        · exact absurd rfl h421
      by_cases hs32_10 : bAnd (xs i.toNat) 31 = 10
      · rw [show (bAnd (xs i.toNat) 31) = 10 from hs32_10]
        refine r_tableIn (d := mL_law nm) (pc := 32) (tgt := 426) (off := 394) dL_law_32 (by decide) (by decide) rfl (by decide) ?_
        obtain ⟨v, I1, P1, I2, w5, w6, hL2⟩ := (hst n I P (by omega) hL).2.2.2.2.2.2.2.2.2.2.1 _ (hxs (i + 1).toNat) _ (hxs (i + 2).toNat)
        refine r_aload_n (d := mL_law nm) (pc := 426) (i := 1) (v := 0) dL_law_426 rfl rfl ?_
        refine r_aload_n (d := mL_law nm) (pc := 427) (i := 0) (v := 2000) dL_law_427 rfl rfl ?_
        refine r_iload_n (d := mL_law nm) (pc := 428) (i := 3) (v := i) dL_law_428 rfl rfl ?_
        refine r_iconst (d := mL_law nm) (pc := 429) (n := 1) dL_law_429 ?_
        refine r_iadd (d := mL_law nm) (pc := 430) dL_law_430 ?_
        refine r_scrAt (d := mL_law nm) (pc := 431) (i := (i + 1)) dL_law_431 (by omega) (by omega) ?_
        refine r_aload_n (d := mL_law nm) (pc := 432) (i := 0) (v := 2000) dL_law_432 rfl rfl ?_
        refine r_iload_n (d := mL_law nm) (pc := 433) (i := 3) (v := i) dL_law_433 rfl rfl ?_
        refine r_iconst (d := mL_law nm) (pc := 434) (n := 2) dL_law_434 ?_
        refine r_iadd (d := mL_law nm) (pc := 435) dL_law_435 ?_
        refine r_scrAt (d := mL_law nm) (pc := 436) (i := (i + 2)) dL_law_436 (by omega) (by omega) ?_
        refine r_cV2 (d := mL_law nm) (pc := 437) (dj := mX5_nameOf) (a := 0) (kd := 5) dL_law_437 mlRL_58 inX5_nameOf selX5_nameOf rfl ly0 (by decide) okX5_nameOf (by decide) rfl (Nat.le_of_ble_eq_true rfl) (Nat.le_of_ble_eq_true rfl) (Nat.le_of_ble_eq_true rfl) (w5 k) ?_
        refine r_aload_n (d := mL_law nm) (pc := 440) (i := 2) (v := 155) dL_law_440 rfl rfl ?_
        refine r_aload_n (d := mL_law nm) (pc := 441) (i := 0) (v := 2000) dL_law_441 rfl rfl ?_
        refine r_iload_n (d := mL_law nm) (pc := 442) (i := 3) (v := i) dL_law_442 rfl rfl ?_
        refine r_iconst (d := mL_law nm) (pc := 443) (n := 1) dL_law_443 ?_
        refine r_iadd (d := mL_law nm) (pc := 444) dL_law_444 ?_
        refine r_scrAt (d := mL_law nm) (pc := 445) (i := (i + 1)) dL_law_445 (by omega) (by omega) ?_
        refine r_aload_n (d := mL_law nm) (pc := 446) (i := 0) (v := 2000) dL_law_446 rfl rfl ?_
        refine r_iload_n (d := mL_law nm) (pc := 447) (i := 3) (v := i) dL_law_447 rfl rfl ?_
        refine r_iconst (d := mL_law nm) (pc := 448) (n := 2) dL_law_448 ?_
        refine r_iadd (d := mL_law nm) (pc := 449) dL_law_449 ?_
        refine r_scrAt (d := mL_law nm) (pc := 450) (i := (i + 2)) dL_law_450 (by omega) (by omega) ?_
        refine r_cV2 (d := mL_law nm) (pc := 451) (dj := mX6_nameOf) (a := 155) (kd := 6) dL_law_451 mlRL_61 inX6_nameOf selX6_nameOf rfl ly155 (by decide) okX6_nameOf (by decide) rfl (Nat.le_of_ble_eq_true rfl) (Nat.le_of_ble_eq_true rfl) (Nat.le_of_ble_eq_true rfl) (w6 k) ?_
        refine r_icmp_eq (d := mL_law nm) (pc := 454) (tgt := 712) dL_law_454 (by decide) (fun h454 => ?_) (fun h454 => ?_)
        · refine r_iinc (d := mL_law nm) (pc := 712) (i := 3) (v := i) (y := (i + 5)) (lv' := [(0, .inr (some 2000)), (1, .inr (some 0)), (2, .inr (some 155)), (3, .inl (i + 5))]) dL_law_712 rfl (Nat.le_of_ble_eq_true rfl) rfl rfl rfl ?_
          refine r_goto (d := mL_law nm) (pc := 715) (tgt := 18) dL_law_715 (by decide) ?_
          exact wpE (by simp) rfl (by rfl) (ih18 (f - 1) (by omega) (n + 1) (i + 5) I2 P1 hL2 (by omega) (by omega) (by omega) (by omega))
        · exact absurd rfl h454
      by_cases hs32_11 : bAnd (xs i.toNat) 31 = 11
      · rw [show (bAnd (xs i.toNat) 31) = 11 from hs32_11]
        refine r_tableIn (d := mL_law nm) (pc := 32) (tgt := 459) (off := 427) dL_law_32 (by decide) (by decide) rfl (by decide) ?_
        obtain ⟨v, I1, P1, I2, w5, w6, hL2⟩ := (hst n I P (by omega) hL).2.2.2.2.2.2.2.2.2.2.2.1 _ (hxs (i + 1).toNat) _ (hxs (i + 2).toNat)
        refine r_aload_n (d := mL_law nm) (pc := 459) (i := 1) (v := 0) dL_law_459 rfl rfl ?_
        refine r_aload_n (d := mL_law nm) (pc := 460) (i := 0) (v := 2000) dL_law_460 rfl rfl ?_
        refine r_iload_n (d := mL_law nm) (pc := 461) (i := 3) (v := i) dL_law_461 rfl rfl ?_
        refine r_iconst (d := mL_law nm) (pc := 462) (n := 1) dL_law_462 ?_
        refine r_iadd (d := mL_law nm) (pc := 463) dL_law_463 ?_
        refine r_scrAt (d := mL_law nm) (pc := 464) (i := (i + 1)) dL_law_464 (by omega) (by omega) ?_
        refine r_aload_n (d := mL_law nm) (pc := 465) (i := 0) (v := 2000) dL_law_465 rfl rfl ?_
        refine r_iload_n (d := mL_law nm) (pc := 466) (i := 3) (v := i) dL_law_466 rfl rfl ?_
        refine r_iconst (d := mL_law nm) (pc := 467) (n := 2) dL_law_467 ?_
        refine r_iadd (d := mL_law nm) (pc := 468) dL_law_468 ?_
        refine r_scrAt (d := mL_law nm) (pc := 469) (i := (i + 2)) dL_law_469 (by omega) (by omega) ?_
        refine r_cV2 (d := mL_law nm) (pc := 470) (dj := mX5_chairOf) (a := 0) (kd := 5) dL_law_470 mlRL_62 inX5_chairOf selX5_chairOf rfl ly0 (by decide) okX5_chairOf (by decide) rfl (Nat.le_of_ble_eq_true rfl) (Nat.le_of_ble_eq_true rfl) (Nat.le_of_ble_eq_true rfl) (w5 k) ?_
        refine r_aload_n (d := mL_law nm) (pc := 473) (i := 2) (v := 155) dL_law_473 rfl rfl ?_
        refine r_aload_n (d := mL_law nm) (pc := 474) (i := 0) (v := 2000) dL_law_474 rfl rfl ?_
        refine r_iload_n (d := mL_law nm) (pc := 475) (i := 3) (v := i) dL_law_475 rfl rfl ?_
        refine r_iconst (d := mL_law nm) (pc := 476) (n := 1) dL_law_476 ?_
        refine r_iadd (d := mL_law nm) (pc := 477) dL_law_477 ?_
        refine r_scrAt (d := mL_law nm) (pc := 478) (i := (i + 1)) dL_law_478 (by omega) (by omega) ?_
        refine r_aload_n (d := mL_law nm) (pc := 479) (i := 0) (v := 2000) dL_law_479 rfl rfl ?_
        refine r_iload_n (d := mL_law nm) (pc := 480) (i := 3) (v := i) dL_law_480 rfl rfl ?_
        refine r_iconst (d := mL_law nm) (pc := 481) (n := 2) dL_law_481 ?_
        refine r_iadd (d := mL_law nm) (pc := 482) dL_law_482 ?_
        refine r_scrAt (d := mL_law nm) (pc := 483) (i := (i + 2)) dL_law_483 (by omega) (by omega) ?_
        refine r_cV2 (d := mL_law nm) (pc := 484) (dj := mX6_chairOf) (a := 155) (kd := 6) dL_law_484 mlRL_65 inX6_chairOf selX6_chairOf rfl ly155 (by decide) okX6_chairOf (by decide) rfl (Nat.le_of_ble_eq_true rfl) (Nat.le_of_ble_eq_true rfl) (Nat.le_of_ble_eq_true rfl) (w6 k) ?_
        refine r_icmp_eq (d := mL_law nm) (pc := 487) (tgt := 712) dL_law_487 (by decide) (fun h487 => ?_) (fun h487 => ?_)
        · refine r_iinc (d := mL_law nm) (pc := 712) (i := 3) (v := i) (y := (i + 5)) (lv' := [(0, .inr (some 2000)), (1, .inr (some 0)), (2, .inr (some 155)), (3, .inl (i + 5))]) dL_law_712 rfl (Nat.le_of_ble_eq_true rfl) rfl rfl rfl ?_
          refine r_goto (d := mL_law nm) (pc := 715) (tgt := 18) dL_law_715 (by decide) ?_
          exact wpE (by simp) rfl (by rfl) (ih18 (f - 1) (by omega) (n + 1) (i + 5) I2 P1 hL2 (by omega) (by omega) (by omega) (by omega))
        · exact absurd rfl h487
      by_cases hs32_12 : bAnd (xs i.toNat) 31 = 12
      · rw [show (bAnd (xs i.toNat) 31) = 12 from hs32_12]
        refine r_tableIn (d := mL_law nm) (pc := 32) (tgt := 492) (off := 460) dL_law_32 (by decide) (by decide) rfl (by decide) ?_
        obtain ⟨v, I1, P1, I2, w5, w6, hL2⟩ := (hst n I P (by omega) hL).2.2.2.2.2.2.2.2.2.2.2.2.1 _ (hxs (i + 1).toNat) _ (hxs (i + 2).toNat)
        refine r_aload_n (d := mL_law nm) (pc := 492) (i := 1) (v := 0) dL_law_492 rfl rfl ?_
        refine r_aload_n (d := mL_law nm) (pc := 493) (i := 0) (v := 2000) dL_law_493 rfl rfl ?_
        refine r_iload_n (d := mL_law nm) (pc := 494) (i := 3) (v := i) dL_law_494 rfl rfl ?_
        refine r_iconst (d := mL_law nm) (pc := 495) (n := 1) dL_law_495 ?_
        refine r_iadd (d := mL_law nm) (pc := 496) dL_law_496 ?_
        refine r_scrAt (d := mL_law nm) (pc := 497) (i := (i + 1)) dL_law_497 (by omega) (by omega) ?_
        refine r_aload_n (d := mL_law nm) (pc := 498) (i := 0) (v := 2000) dL_law_498 rfl rfl ?_
        refine r_iload_n (d := mL_law nm) (pc := 499) (i := 3) (v := i) dL_law_499 rfl rfl ?_
        refine r_iconst (d := mL_law nm) (pc := 500) (n := 2) dL_law_500 ?_
        refine r_iadd (d := mL_law nm) (pc := 501) dL_law_501 ?_
        refine r_scrAt (d := mL_law nm) (pc := 502) (i := (i + 2)) dL_law_502 (by omega) (by omega) ?_
        refine r_cV2 (d := mL_law nm) (pc := 503) (dj := mX5_orderOf) (a := 0) (kd := 5) dL_law_503 mlRL_66 inX5_orderOf selX5_orderOf rfl ly0 (by decide) okX5_orderOf (by decide) rfl (Nat.le_of_ble_eq_true rfl) (Nat.le_of_ble_eq_true rfl) (Nat.le_of_ble_eq_true rfl) (w5 k) ?_
        refine r_aload_n (d := mL_law nm) (pc := 506) (i := 2) (v := 155) dL_law_506 rfl rfl ?_
        refine r_aload_n (d := mL_law nm) (pc := 507) (i := 0) (v := 2000) dL_law_507 rfl rfl ?_
        refine r_iload_n (d := mL_law nm) (pc := 508) (i := 3) (v := i) dL_law_508 rfl rfl ?_
        refine r_iconst (d := mL_law nm) (pc := 509) (n := 1) dL_law_509 ?_
        refine r_iadd (d := mL_law nm) (pc := 510) dL_law_510 ?_
        refine r_scrAt (d := mL_law nm) (pc := 511) (i := (i + 1)) dL_law_511 (by omega) (by omega) ?_
        refine r_aload_n (d := mL_law nm) (pc := 512) (i := 0) (v := 2000) dL_law_512 rfl rfl ?_
        refine r_iload_n (d := mL_law nm) (pc := 513) (i := 3) (v := i) dL_law_513 rfl rfl ?_
        refine r_iconst (d := mL_law nm) (pc := 514) (n := 2) dL_law_514 ?_
        refine r_iadd (d := mL_law nm) (pc := 515) dL_law_515 ?_
        refine r_scrAt (d := mL_law nm) (pc := 516) (i := (i + 2)) dL_law_516 (by omega) (by omega) ?_
        refine r_cV2 (d := mL_law nm) (pc := 517) (dj := mX6_orderOf) (a := 155) (kd := 6) dL_law_517 mlRL_69 inX6_orderOf selX6_orderOf rfl ly155 (by decide) okX6_orderOf (by decide) rfl (Nat.le_of_ble_eq_true rfl) (Nat.le_of_ble_eq_true rfl) (Nat.le_of_ble_eq_true rfl) (w6 k) ?_
        refine r_icmp_eq (d := mL_law nm) (pc := 520) (tgt := 712) dL_law_520 (by decide) (fun h520 => ?_) (fun h520 => ?_)
        · refine r_iinc (d := mL_law nm) (pc := 712) (i := 3) (v := i) (y := (i + 5)) (lv' := [(0, .inr (some 2000)), (1, .inr (some 0)), (2, .inr (some 155)), (3, .inl (i + 5))]) dL_law_712 rfl (Nat.le_of_ble_eq_true rfl) rfl rfl rfl ?_
          refine r_goto (d := mL_law nm) (pc := 715) (tgt := 18) dL_law_715 (by decide) ?_
          exact wpE (by simp) rfl (by rfl) (ih18 (f - 1) (by omega) (n + 1) (i + 5) I2 P1 hL2 (by omega) (by omega) (by omega) (by omega))
        · exact absurd rfl h520
      by_cases hs32_13 : bAnd (xs i.toNat) 31 = 13
      · rw [show (bAnd (xs i.toNat) 31) = 13 from hs32_13]
        refine r_tableIn (d := mL_law nm) (pc := 32) (tgt := 525) (off := 493) dL_law_32 (by decide) (by decide) rfl (by decide) ?_
        obtain ⟨v, I1, P1, I2, w5, w6, hL2⟩ := (hst n I P (by omega) hL).2.2.2.2.2.2.2.2.2.2.2.2.2.1 _ (hxs (i + 1).toNat)
        refine r_aload_n (d := mL_law nm) (pc := 525) (i := 1) (v := 0) dL_law_525 rfl rfl ?_
        refine r_aload_n (d := mL_law nm) (pc := 526) (i := 0) (v := 2000) dL_law_526 rfl rfl ?_
        refine r_iload_n (d := mL_law nm) (pc := 527) (i := 3) (v := i) dL_law_527 rfl rfl ?_
        refine r_iconst (d := mL_law nm) (pc := 528) (n := 1) dL_law_528 ?_
        refine r_iadd (d := mL_law nm) (pc := 529) dL_law_529 ?_
        refine r_scrAt (d := mL_law nm) (pc := 530) (i := (i + 1)) dL_law_530 (by omega) (by omega) ?_
        refine r_cV1 (d := mL_law nm) (pc := 531) (dj := mX5_count) (a := 0) (kd := 5) dL_law_531 mlRL_70 inX5_count selX5_count rfl ly0 (by decide) okX5_count (by decide) rfl (Nat.le_of_ble_eq_true rfl) (Nat.le_of_ble_eq_true rfl) (Nat.le_of_ble_eq_true rfl) (w5 k) ?_
        refine r_aload_n (d := mL_law nm) (pc := 534) (i := 2) (v := 155) dL_law_534 rfl rfl ?_
        refine r_aload_n (d := mL_law nm) (pc := 535) (i := 0) (v := 2000) dL_law_535 rfl rfl ?_
        refine r_iload_n (d := mL_law nm) (pc := 536) (i := 3) (v := i) dL_law_536 rfl rfl ?_
        refine r_iconst (d := mL_law nm) (pc := 537) (n := 1) dL_law_537 ?_
        refine r_iadd (d := mL_law nm) (pc := 538) dL_law_538 ?_
        refine r_scrAt (d := mL_law nm) (pc := 539) (i := (i + 1)) dL_law_539 (by omega) (by omega) ?_
        refine r_cV1 (d := mL_law nm) (pc := 540) (dj := mX6_count) (a := 155) (kd := 6) dL_law_540 mlRL_73 inX6_count selX6_count rfl ly155 (by decide) okX6_count (by decide) rfl (Nat.le_of_ble_eq_true rfl) (Nat.le_of_ble_eq_true rfl) (Nat.le_of_ble_eq_true rfl) (w6 k) ?_
        refine r_icmp_eq (d := mL_law nm) (pc := 543) (tgt := 712) dL_law_543 (by decide) (fun h543 => ?_) (fun h543 => ?_)
        · refine r_iinc (d := mL_law nm) (pc := 712) (i := 3) (v := i) (y := (i + 5)) (lv' := [(0, .inr (some 2000)), (1, .inr (some 0)), (2, .inr (some 155)), (3, .inl (i + 5))]) dL_law_712 rfl (Nat.le_of_ble_eq_true rfl) rfl rfl rfl ?_
          refine r_goto (d := mL_law nm) (pc := 715) (tgt := 18) dL_law_715 (by decide) ?_
          exact wpE (by simp) rfl (by rfl) (ih18 (f - 1) (by omega) (n + 1) (i + 5) I2 P1 hL2 (by omega) (by omega) (by omega) (by omega))
        · exact absurd rfl h543
      by_cases hs32_14 : bAnd (xs i.toNat) 31 = 14
      · rw [show (bAnd (xs i.toNat) 31) = 14 from hs32_14]
        refine r_tableIn (d := mL_law nm) (pc := 32) (tgt := 548) (off := 516) dL_law_32 (by decide) (by decide) rfl (by decide) ?_
        obtain ⟨v, I1, P1, I2, w5, w6, hL2⟩ := (hst n I P (by omega) hL).2.2.2.2.2.2.2.2.2.2.2.2.2.2.1 _ (hxs (i + 1).toNat) _ (hxs (i + 2).toNat) _ (hxs (i + 3).toNat)
        refine r_aload_n (d := mL_law nm) (pc := 548) (i := 1) (v := 0) dL_law_548 rfl rfl ?_
        refine r_aload_n (d := mL_law nm) (pc := 549) (i := 0) (v := 2000) dL_law_549 rfl rfl ?_
        refine r_iload_n (d := mL_law nm) (pc := 550) (i := 3) (v := i) dL_law_550 rfl rfl ?_
        refine r_iconst (d := mL_law nm) (pc := 551) (n := 1) dL_law_551 ?_
        refine r_iadd (d := mL_law nm) (pc := 552) dL_law_552 ?_
        refine r_scrAt (d := mL_law nm) (pc := 553) (i := (i + 1)) dL_law_553 (by omega) (by omega) ?_
        refine r_aload_n (d := mL_law nm) (pc := 554) (i := 0) (v := 2000) dL_law_554 rfl rfl ?_
        refine r_iload_n (d := mL_law nm) (pc := 555) (i := 3) (v := i) dL_law_555 rfl rfl ?_
        refine r_iconst (d := mL_law nm) (pc := 556) (n := 2) dL_law_556 ?_
        refine r_iadd (d := mL_law nm) (pc := 557) dL_law_557 ?_
        refine r_scrAt (d := mL_law nm) (pc := 558) (i := (i + 2)) dL_law_558 (by omega) (by omega) ?_
        refine r_aload_n (d := mL_law nm) (pc := 559) (i := 0) (v := 2000) dL_law_559 rfl rfl ?_
        refine r_iload_n (d := mL_law nm) (pc := 560) (i := 3) (v := i) dL_law_560 rfl rfl ?_
        refine r_iconst (d := mL_law nm) (pc := 561) (n := 3) dL_law_561 ?_
        refine r_iadd (d := mL_law nm) (pc := 562) dL_law_562 ?_
        refine r_scrAt (d := mL_law nm) (pc := 563) (i := (i + 3)) dL_law_563 (by omega) (by omega) ?_
        refine r_cV3 (d := mL_law nm) (pc := 564) (dj := mX5_sends) (a := 0) (kd := 5) dL_law_564 mlRL_74 inX5_sends selX5_sends rfl ly0 (by decide) okX5_sends (by decide) rfl (Nat.le_of_ble_eq_true rfl) (Nat.le_of_ble_eq_true rfl) (Nat.le_of_ble_eq_true rfl) (w5 k) ?_
        refine r_aload_n (d := mL_law nm) (pc := 567) (i := 2) (v := 155) dL_law_567 rfl rfl ?_
        refine r_aload_n (d := mL_law nm) (pc := 568) (i := 0) (v := 2000) dL_law_568 rfl rfl ?_
        refine r_iload_n (d := mL_law nm) (pc := 569) (i := 3) (v := i) dL_law_569 rfl rfl ?_
        refine r_iconst (d := mL_law nm) (pc := 570) (n := 1) dL_law_570 ?_
        refine r_iadd (d := mL_law nm) (pc := 571) dL_law_571 ?_
        refine r_scrAt (d := mL_law nm) (pc := 572) (i := (i + 1)) dL_law_572 (by omega) (by omega) ?_
        refine r_aload_n (d := mL_law nm) (pc := 573) (i := 0) (v := 2000) dL_law_573 rfl rfl ?_
        refine r_iload_n (d := mL_law nm) (pc := 574) (i := 3) (v := i) dL_law_574 rfl rfl ?_
        refine r_iconst (d := mL_law nm) (pc := 575) (n := 2) dL_law_575 ?_
        refine r_iadd (d := mL_law nm) (pc := 576) dL_law_576 ?_
        refine r_scrAt (d := mL_law nm) (pc := 577) (i := (i + 2)) dL_law_577 (by omega) (by omega) ?_
        refine r_aload_n (d := mL_law nm) (pc := 578) (i := 0) (v := 2000) dL_law_578 rfl rfl ?_
        refine r_iload_n (d := mL_law nm) (pc := 579) (i := 3) (v := i) dL_law_579 rfl rfl ?_
        refine r_iconst (d := mL_law nm) (pc := 580) (n := 3) dL_law_580 ?_
        refine r_iadd (d := mL_law nm) (pc := 581) dL_law_581 ?_
        refine r_scrAt (d := mL_law nm) (pc := 582) (i := (i + 3)) dL_law_582 (by omega) (by omega) ?_
        refine r_cV3 (d := mL_law nm) (pc := 583) (dj := mX6_sends) (a := 155) (kd := 6) dL_law_583 mlRL_77 inX6_sends selX6_sends rfl ly155 (by decide) okX6_sends (by decide) rfl (Nat.le_of_ble_eq_true rfl) (Nat.le_of_ble_eq_true rfl) (Nat.le_of_ble_eq_true rfl) (w6 k) ?_
        refine r_icmp_eq (d := mL_law nm) (pc := 586) (tgt := 712) dL_law_586 (by decide) (fun h586 => ?_) (fun h586 => ?_)
        · refine r_iinc (d := mL_law nm) (pc := 712) (i := 3) (v := i) (y := (i + 5)) (lv' := [(0, .inr (some 2000)), (1, .inr (some 0)), (2, .inr (some 155)), (3, .inl (i + 5))]) dL_law_712 rfl (Nat.le_of_ble_eq_true rfl) rfl rfl rfl ?_
          refine r_goto (d := mL_law nm) (pc := 715) (tgt := 18) dL_law_715 (by decide) ?_
          exact wpE (by simp) rfl (by rfl) (ih18 (f - 1) (by omega) (n + 1) (i + 5) I2 P1 hL2 (by omega) (by omega) (by omega) (by omega))
        · exact absurd rfl h586
      by_cases hs32_15 : bAnd (xs i.toNat) 31 = 15
      · rw [show (bAnd (xs i.toNat) 31) = 15 from hs32_15]
        refine r_tableIn (d := mL_law nm) (pc := 32) (tgt := 591) (off := 559) dL_law_32 (by decide) (by decide) rfl (by decide) ?_
        obtain ⟨v, I1, P1, I2, w5, w6, hL2⟩ := (hst n I P (by omega) hL).2.2.2.2.2.2.2.2.2.2.2.2.2.2.2.1 
        refine r_aload_n (d := mL_law nm) (pc := 591) (i := 1) (v := 0) dL_law_591 rfl rfl ?_
        refine r_cV0 (d := mL_law nm) (pc := 592) (dj := mX5_idleIn) (a := 0) (kd := 5) dL_law_592 mlRL_78 inX5_idleIn selX5_idleIn rfl ly0 (by decide) okX5_idleIn (by decide) rfl (Nat.le_of_ble_eq_true rfl) (Nat.le_of_ble_eq_true rfl) (Nat.le_of_ble_eq_true rfl) (w5 k) ?_
        refine r_aload_n (d := mL_law nm) (pc := 595) (i := 2) (v := 155) dL_law_595 rfl rfl ?_
        refine r_cV0 (d := mL_law nm) (pc := 596) (dj := mX6_idleIn) (a := 155) (kd := 6) dL_law_596 mlRL_81 inX6_idleIn selX6_idleIn rfl ly155 (by decide) okX6_idleIn (by decide) rfl (Nat.le_of_ble_eq_true rfl) (Nat.le_of_ble_eq_true rfl) (Nat.le_of_ble_eq_true rfl) (w6 k) ?_
        refine r_icmp_eq (d := mL_law nm) (pc := 599) (tgt := 712) dL_law_599 (by decide) (fun h599 => ?_) (fun h599 => ?_)
        · refine r_iinc (d := mL_law nm) (pc := 712) (i := 3) (v := i) (y := (i + 5)) (lv' := [(0, .inr (some 2000)), (1, .inr (some 0)), (2, .inr (some 155)), (3, .inl (i + 5))]) dL_law_712 rfl (Nat.le_of_ble_eq_true rfl) rfl rfl rfl ?_
          refine r_goto (d := mL_law nm) (pc := 715) (tgt := 18) dL_law_715 (by decide) ?_
          exact wpE (by simp) rfl (by rfl) (ih18 (f - 1) (by omega) (n + 1) (i + 5) I2 P1 hL2 (by omega) (by omega) (by omega) (by omega))
        · exact absurd rfl h599
      by_cases hs32_16 : bAnd (xs i.toNat) 31 = 16
      · rw [show (bAnd (xs i.toNat) 31) = 16 from hs32_16]
        refine r_tableIn (d := mL_law nm) (pc := 32) (tgt := 604) (off := 572) dL_law_32 (by decide) (by decide) rfl (by decide) ?_
        obtain ⟨v, I1, P1, I2, w5, w6, hL2⟩ := (hst n I P (by omega) hL).2.2.2.2.2.2.2.2.2.2.2.2.2.2.2.2.1 _ (hxs (i + 1).toNat)
        refine r_aload_n (d := mL_law nm) (pc := 604) (i := 1) (v := 0) dL_law_604 rfl rfl ?_
        refine r_aload_n (d := mL_law nm) (pc := 605) (i := 0) (v := 2000) dL_law_605 rfl rfl ?_
        refine r_iload_n (d := mL_law nm) (pc := 606) (i := 3) (v := i) dL_law_606 rfl rfl ?_
        refine r_iconst (d := mL_law nm) (pc := 607) (n := 1) dL_law_607 ?_
        refine r_iadd (d := mL_law nm) (pc := 608) dL_law_608 ?_
        refine r_scrAt (d := mL_law nm) (pc := 609) (i := (i + 1)) dL_law_609 (by omega) (by omega) ?_
        refine r_cV1 (d := mL_law nm) (pc := 610) (dj := mX5_knownIn) (a := 0) (kd := 5) dL_law_610 mlRL_82 inX5_knownIn selX5_knownIn rfl ly0 (by decide) okX5_knownIn (by decide) rfl (Nat.le_of_ble_eq_true rfl) (Nat.le_of_ble_eq_true rfl) (Nat.le_of_ble_eq_true rfl) (w5 k) ?_
        refine r_aload_n (d := mL_law nm) (pc := 613) (i := 2) (v := 155) dL_law_613 rfl rfl ?_
        refine r_aload_n (d := mL_law nm) (pc := 614) (i := 0) (v := 2000) dL_law_614 rfl rfl ?_
        refine r_iload_n (d := mL_law nm) (pc := 615) (i := 3) (v := i) dL_law_615 rfl rfl ?_
        refine r_iconst (d := mL_law nm) (pc := 616) (n := 1) dL_law_616 ?_
        refine r_iadd (d := mL_law nm) (pc := 617) dL_law_617 ?_
        refine r_scrAt (d := mL_law nm) (pc := 618) (i := (i + 1)) dL_law_618 (by omega) (by omega) ?_
        refine r_cV1 (d := mL_law nm) (pc := 619) (dj := mX6_knownIn) (a := 155) (kd := 6) dL_law_619 mlRL_85 inX6_knownIn selX6_knownIn rfl ly155 (by decide) okX6_knownIn (by decide) rfl (Nat.le_of_ble_eq_true rfl) (Nat.le_of_ble_eq_true rfl) (Nat.le_of_ble_eq_true rfl) (w6 k) ?_
        refine r_icmp_eq (d := mL_law nm) (pc := 622) (tgt := 712) dL_law_622 (by decide) (fun h622 => ?_) (fun h622 => ?_)
        · refine r_iinc (d := mL_law nm) (pc := 712) (i := 3) (v := i) (y := (i + 5)) (lv' := [(0, .inr (some 2000)), (1, .inr (some 0)), (2, .inr (some 155)), (3, .inl (i + 5))]) dL_law_712 rfl (Nat.le_of_ble_eq_true rfl) rfl rfl rfl ?_
          refine r_goto (d := mL_law nm) (pc := 715) (tgt := 18) dL_law_715 (by decide) ?_
          exact wpE (by simp) rfl (by rfl) (ih18 (f - 1) (by omega) (n + 1) (i + 5) I2 P1 hL2 (by omega) (by omega) (by omega) (by omega))
        · exact absurd rfl h622
      by_cases hs32_17 : bAnd (xs i.toNat) 31 = 17
      · rw [show (bAnd (xs i.toNat) 31) = 17 from hs32_17]
        refine r_tableIn (d := mL_law nm) (pc := 32) (tgt := 627) (off := 595) dL_law_32 (by decide) (by decide) rfl (by decide) ?_
        obtain ⟨v, I1, P1, I2, w5, w6, hL2⟩ := (hst n I P (by omega) hL).2.2.2.2.2.2.2.2.2.2.2.2.2.2.2.2.2.1 
        refine r_aload_n (d := mL_law nm) (pc := 627) (i := 1) (v := 0) dL_law_627 rfl rfl ?_
        refine r_cV0 (d := mL_law nm) (pc := 628) (dj := mX5_undo) (a := 0) (kd := 5) dL_law_628 mlRL_86 inX5_undo selX5_undo rfl ly0 (by decide) okX5_undo (by decide) rfl (Nat.le_of_ble_eq_true rfl) (Nat.le_of_ble_eq_true rfl) (Nat.le_of_ble_eq_true rfl) (w5 k) ?_
        refine r_aload_n (d := mL_law nm) (pc := 631) (i := 2) (v := 155) dL_law_631 rfl rfl ?_
        refine r_cV0 (d := mL_law nm) (pc := 632) (dj := mX6_undo) (a := 155) (kd := 6) dL_law_632 mlRL_89 inX6_undo selX6_undo rfl ly155 (by decide) okX6_undo (by decide) rfl (Nat.le_of_ble_eq_true rfl) (Nat.le_of_ble_eq_true rfl) (Nat.le_of_ble_eq_true rfl) (w6 k) ?_
        refine r_icmp_eq (d := mL_law nm) (pc := 635) (tgt := 712) dL_law_635 (by decide) (fun h635 => ?_) (fun h635 => ?_)
        · refine r_iinc (d := mL_law nm) (pc := 712) (i := 3) (v := i) (y := (i + 5)) (lv' := [(0, .inr (some 2000)), (1, .inr (some 0)), (2, .inr (some 155)), (3, .inl (i + 5))]) dL_law_712 rfl (Nat.le_of_ble_eq_true rfl) rfl rfl rfl ?_
          refine r_goto (d := mL_law nm) (pc := 715) (tgt := 18) dL_law_715 (by decide) ?_
          exact wpE (by simp) rfl (by rfl) (ih18 (f - 1) (by omega) (n + 1) (i + 5) I2 P1 hL2 (by omega) (by omega) (by omega) (by omega))
        · exact absurd rfl h635
      by_cases hs32_18 : bAnd (xs i.toNat) 31 = 18
      · rw [show (bAnd (xs i.toNat) 31) = 18 from hs32_18]
        refine r_tableIn (d := mL_law nm) (pc := 32) (tgt := 640) (off := 608) dL_law_32 (by decide) (by decide) rfl (by decide) ?_
        obtain ⟨v, I1, P1, I2, w5, w6, hL2⟩ := (hst n I P (by omega) hL).2.2.2.2.2.2.2.2.2.2.2.2.2.2.2.2.2.2.1 _ (hxs (i + 1).toNat)
        refine r_aload_n (d := mL_law nm) (pc := 640) (i := 1) (v := 0) dL_law_640 rfl rfl ?_
        refine r_aload_n (d := mL_law nm) (pc := 641) (i := 0) (v := 2000) dL_law_641 rfl rfl ?_
        refine r_iload_n (d := mL_law nm) (pc := 642) (i := 3) (v := i) dL_law_642 rfl rfl ?_
        refine r_iconst (d := mL_law nm) (pc := 643) (n := 1) dL_law_643 ?_
        refine r_iadd (d := mL_law nm) (pc := 644) dL_law_644 ?_
        refine r_scrAt (d := mL_law nm) (pc := 645) (i := (i + 1)) dL_law_645 (by omega) (by omega) ?_
        refine r_cV1 (d := mL_law nm) (pc := 646) (dj := mX5_type) (a := 0) (kd := 5) dL_law_646 mlRL_90 inX5_type selX5_type rfl ly0 (by decide) okX5_type (by decide) rfl (Nat.le_of_ble_eq_true rfl) (Nat.le_of_ble_eq_true rfl) (Nat.le_of_ble_eq_true rfl) (w5 k) ?_
        refine r_aload_n (d := mL_law nm) (pc := 649) (i := 2) (v := 155) dL_law_649 rfl rfl ?_
        refine r_aload_n (d := mL_law nm) (pc := 650) (i := 0) (v := 2000) dL_law_650 rfl rfl ?_
        refine r_iload_n (d := mL_law nm) (pc := 651) (i := 3) (v := i) dL_law_651 rfl rfl ?_
        refine r_iconst (d := mL_law nm) (pc := 652) (n := 1) dL_law_652 ?_
        refine r_iadd (d := mL_law nm) (pc := 653) dL_law_653 ?_
        refine r_scrAt (d := mL_law nm) (pc := 654) (i := (i + 1)) dL_law_654 (by omega) (by omega) ?_
        refine r_cV1 (d := mL_law nm) (pc := 655) (dj := mX6_type) (a := 155) (kd := 6) dL_law_655 mlRL_93 inX6_type selX6_type rfl ly155 (by decide) okX6_type (by decide) rfl (Nat.le_of_ble_eq_true rfl) (Nat.le_of_ble_eq_true rfl) (Nat.le_of_ble_eq_true rfl) (w6 k) ?_
        refine r_icmp_eq (d := mL_law nm) (pc := 658) (tgt := 712) dL_law_658 (by decide) (fun h658 => ?_) (fun h658 => ?_)
        · refine r_iinc (d := mL_law nm) (pc := 712) (i := 3) (v := i) (y := (i + 5)) (lv' := [(0, .inr (some 2000)), (1, .inr (some 0)), (2, .inr (some 155)), (3, .inl (i + 5))]) dL_law_712 rfl (Nat.le_of_ble_eq_true rfl) rfl rfl rfl ?_
          refine r_goto (d := mL_law nm) (pc := 715) (tgt := 18) dL_law_715 (by decide) ?_
          exact wpE (by simp) rfl (by rfl) (ih18 (f - 1) (by omega) (n + 1) (i + 5) I2 P1 hL2 (by omega) (by omega) (by omega) (by omega))
        · exact absurd rfl h658
      by_cases hs32_19 : bAnd (xs i.toNat) 31 = 19
      · rw [show (bAnd (xs i.toNat) 31) = 19 from hs32_19]
        refine r_tableIn (d := mL_law nm) (pc := 32) (tgt := 663) (off := 631) dL_law_32 (by decide) (by decide) rfl (by decide) ?_
        obtain ⟨v, I1, P1, I2, w5, w6, hL2⟩ := (hst n I P (by omega) hL).2.2.2.2.2.2.2.2.2.2.2.2.2.2.2.2.2.2.2.1 
        refine r_aload_n (d := mL_law nm) (pc := 663) (i := 1) (v := 0) dL_law_663 rfl rfl ?_
        refine r_cV0 (d := mL_law nm) (pc := 664) (dj := mX5_clearText) (a := 0) (kd := 5) dL_law_664 mlRL_94 inX5_clearText selX5_clearText rfl ly0 (by decide) okX5_clearText (by decide) rfl (Nat.le_of_ble_eq_true rfl) (Nat.le_of_ble_eq_true rfl) (Nat.le_of_ble_eq_true rfl) (w5 k) ?_
        refine r_aload_n (d := mL_law nm) (pc := 667) (i := 2) (v := 155) dL_law_667 rfl rfl ?_
        refine r_cV0 (d := mL_law nm) (pc := 668) (dj := mX6_clearText) (a := 155) (kd := 6) dL_law_668 mlRL_97 inX6_clearText selX6_clearText rfl ly155 (by decide) okX6_clearText (by decide) rfl (Nat.le_of_ble_eq_true rfl) (Nat.le_of_ble_eq_true rfl) (Nat.le_of_ble_eq_true rfl) (w6 k) ?_
        refine r_icmp_eq (d := mL_law nm) (pc := 671) (tgt := 712) dL_law_671 (by decide) (fun h671 => ?_) (fun h671 => ?_)
        · refine r_iinc (d := mL_law nm) (pc := 712) (i := 3) (v := i) (y := (i + 5)) (lv' := [(0, .inr (some 2000)), (1, .inr (some 0)), (2, .inr (some 155)), (3, .inl (i + 5))]) dL_law_712 rfl (Nat.le_of_ble_eq_true rfl) rfl rfl rfl ?_
          refine r_goto (d := mL_law nm) (pc := 715) (tgt := 18) dL_law_715 (by decide) ?_
          exact wpE (by simp) rfl (by rfl) (ih18 (f - 1) (by omega) (n + 1) (i + 5) I2 P1 hL2 (by omega) (by omega) (by omega) (by omega))
        · exact absurd rfl h671
      by_cases hs32_20 : bAnd (xs i.toNat) 31 = 20
      · rw [show (bAnd (xs i.toNat) 31) = 20 from hs32_20]
        refine r_tableIn (d := mL_law nm) (pc := 32) (tgt := 676) (off := 644) dL_law_32 (by decide) (by decide) rfl (by decide) ?_
        obtain ⟨v, I1, P1, I2, w5, w6, hL2⟩ := (hst n I P (by omega) hL).2.2.2.2.2.2.2.2.2.2.2.2.2.2.2.2.2.2.2.2.1 _ (hxs (i + 1).toNat)
        refine r_aload_n (d := mL_law nm) (pc := 676) (i := 1) (v := 0) dL_law_676 rfl rfl ?_
        refine r_aload_n (d := mL_law nm) (pc := 677) (i := 0) (v := 2000) dL_law_677 rfl rfl ?_
        refine r_iload_n (d := mL_law nm) (pc := 678) (i := 3) (v := i) dL_law_678 rfl rfl ?_
        refine r_iconst (d := mL_law nm) (pc := 679) (n := 1) dL_law_679 ?_
        refine r_iadd (d := mL_law nm) (pc := 680) dL_law_680 ?_
        refine r_scrAt (d := mL_law nm) (pc := 681) (i := (i + 1)) dL_law_681 (by omega) (by omega) ?_
        refine r_cV1 (d := mL_law nm) (pc := 682) (dj := mX5_fault) (a := 0) (kd := 5) dL_law_682 mlRL_98 inX5_fault selX5_fault rfl ly0 (by decide) okX5_fault (by decide) rfl (Nat.le_of_ble_eq_true rfl) (Nat.le_of_ble_eq_true rfl) (Nat.le_of_ble_eq_true rfl) (w5 k) ?_
        refine r_aload_n (d := mL_law nm) (pc := 685) (i := 2) (v := 155) dL_law_685 rfl rfl ?_
        refine r_aload_n (d := mL_law nm) (pc := 686) (i := 0) (v := 2000) dL_law_686 rfl rfl ?_
        refine r_iload_n (d := mL_law nm) (pc := 687) (i := 3) (v := i) dL_law_687 rfl rfl ?_
        refine r_iconst (d := mL_law nm) (pc := 688) (n := 1) dL_law_688 ?_
        refine r_iadd (d := mL_law nm) (pc := 689) dL_law_689 ?_
        refine r_scrAt (d := mL_law nm) (pc := 690) (i := (i + 1)) dL_law_690 (by omega) (by omega) ?_
        refine r_cV1 (d := mL_law nm) (pc := 691) (dj := mX6_fault) (a := 155) (kd := 6) dL_law_691 mlRL_101 inX6_fault selX6_fault rfl ly155 (by decide) okX6_fault (by decide) rfl (Nat.le_of_ble_eq_true rfl) (Nat.le_of_ble_eq_true rfl) (Nat.le_of_ble_eq_true rfl) (w6 k) ?_
        refine r_icmp_eq (d := mL_law nm) (pc := 694) (tgt := 712) dL_law_694 (by decide) (fun h694 => ?_) (fun h694 => ?_)
        · refine r_iinc (d := mL_law nm) (pc := 712) (i := 3) (v := i) (y := (i + 5)) (lv' := [(0, .inr (some 2000)), (1, .inr (some 0)), (2, .inr (some 155)), (3, .inl (i + 5))]) dL_law_712 rfl (Nat.le_of_ble_eq_true rfl) rfl rfl rfl ?_
          refine r_goto (d := mL_law nm) (pc := 715) (tgt := 18) dL_law_715 (by decide) ?_
          exact wpE (by simp) rfl (by rfl) (ih18 (f - 1) (by omega) (n + 1) (i + 5) I2 P1 hL2 (by omega) (by omega) (by omega) (by omega))
        · exact absurd rfl h694
      by_cases hs32_21 : bAnd (xs i.toNat) 31 = 21
      · rw [show (bAnd (xs i.toNat) 31) = 21 from hs32_21]
        refine r_tableIn (d := mL_law nm) (pc := 32) (tgt := 699) (off := 667) dL_law_32 (by decide) (by decide) rfl (by decide) ?_
        obtain ⟨v, I1, P1, I2, w5, w6, hL2⟩ := (hst n I P (by omega) hL).2.2.2.2.2.2.2.2.2.2.2.2.2.2.2.2.2.2.2.2.2 
        refine r_aload_n (d := mL_law nm) (pc := 699) (i := 1) (v := 0) dL_law_699 rfl rfl ?_
        refine r_cV0 (d := mL_law nm) (pc := 700) (dj := mX5_play) (a := 0) (kd := 5) dL_law_700 mlRL_102 inX5_play selX5_play rfl ly0 (by decide) okX5_play (by decide) rfl (Nat.le_of_ble_eq_true rfl) (Nat.le_of_ble_eq_true rfl) (Nat.le_of_ble_eq_true rfl) (w5 k) ?_
        refine r_aload_n (d := mL_law nm) (pc := 703) (i := 2) (v := 155) dL_law_703 rfl rfl ?_
        refine r_cV0 (d := mL_law nm) (pc := 704) (dj := mX6_play) (a := 155) (kd := 6) dL_law_704 mlRL_105 inX6_play selX6_play rfl ly155 (by decide) okX6_play (by decide) rfl (Nat.le_of_ble_eq_true rfl) (Nat.le_of_ble_eq_true rfl) (Nat.le_of_ble_eq_true rfl) (w6 k) ?_
        refine r_icmp_eq (d := mL_law nm) (pc := 707) (tgt := 712) dL_law_707 (by decide) (fun h707 => ?_) (fun h707 => ?_)
        · refine r_iinc (d := mL_law nm) (pc := 712) (i := 3) (v := i) (y := (i + 5)) (lv' := [(0, .inr (some 2000)), (1, .inr (some 0)), (2, .inr (some 155)), (3, .inl (i + 5))]) dL_law_712 rfl (Nat.le_of_ble_eq_true rfl) rfl rfl rfl ?_
          refine r_goto (d := mL_law nm) (pc := 715) (tgt := 18) dL_law_715 (by decide) ?_
          exact wpE (by simp) rfl (by rfl) (ih18 (f - 1) (by omega) (n + 1) (i + 5) I2 P1 hL2 (by omega) (by omega) (by omega) (by omega))
        · exact absurd rfl h707
      refine r_tableOut (d := mL_law nm) (pc := 32) (tgt := 712) dL_law_32 (by omega) (by decide) ?_
      refine r_iinc (d := mL_law nm) (pc := 712) (i := 3) (v := i) (y := (i + 5)) (lv' := [(0, .inr (some 2000)), (1, .inr (some 0)), (2, .inr (some 155)), (3, .inl (i + 5))]) dL_law_712 rfl (Nat.le_of_ble_eq_true rfl) rfl rfl rfl ?_
      refine r_goto (d := mL_law nm) (pc := 715) (tgt := 18) dL_law_715 (by decide) ?_
      exact wpE (by simp) rfl (by rfl) (ih18 (f - 1) (by omega) n (i + 5) I P hL (by omega) (by omega) (by omega) (by omega))
  exact wpE (by simp) rfl (by rfl) (L18 L 0 0 lI0 lP0 h0 (by omega) (by omega) (by omega) (by omega))
