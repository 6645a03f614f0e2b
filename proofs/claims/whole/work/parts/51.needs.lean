/-! ===== the mathematics: which chairs are needed ===== -/
theorem ex_s {n : Nat} {p : Int → Prop} : (∃ k : Int, 0 ≤ k ∧ k < ((n + 1 : Nat) : Int) ∧ p k) ↔ ((∃ k : Int, 0 ≤ k ∧ k < (n : Int) ∧ p k) ∨ p n) := by
  constructor
  · rintro ⟨k, h0, h1, h2⟩
    by_cases h : k = (n : Int)
    · exact Or.inr (h ▸ h2)
    · exact Or.inl ⟨k, h0, by omega, h2⟩
  · rintro (⟨k, h0, h1, h2⟩ | h)
    · exact ⟨k, h0, by omega, h2⟩
    · exact ⟨n, by omega, by omega, h⟩
theorem ex_0 {p : Int → Prop} : ¬ ∃ k : Int, 0 ≤ k ∧ k < ((0 : Nat) : Int) ∧ p k := by
  rintro ⟨k, h0, h1, _⟩; omega
theorem bt_shl' {x : Int} {j : Nat} (h0 : 0 ≤ x) (h1 : x < 8) (hj : j < 8) : bt (bShl 1 x) j = true ↔ x = (j : Int) := by
  obtain ⟨c, rfl⟩ : ∃ c : Nat, x = (c : Int) := ⟨x.toNat, by omega⟩
  rw [bt_shl c (by omega) j hj, decide_eq_true_eq]
  omega
theorem cset_bt {f : Int → Int} {j : Nat} (hj : j < 8) : ∀ n : Nat, (∀ k : Int, 0 ≤ k → k < (n : Int) → -1 ≤ f k ∧ f k < 8) → (bt (cset f n) j = true ↔ ∃ k : Int, 0 ≤ k ∧ k < (n : Int) ∧ f k = (j : Int)) := by
  intro n
  induction n with
  | zero => intro _; simp only [cset, bt_zero j hj]; constructor
            · intro h; cases h
            · intro h; exact absurd h ex_0
  | succ n ih =>
    intro h
    have ih' := ih (fun k h0 h1 => h k h0 (by omega))
    have hn := h n (by omega) (by omega)
    rw [ex_s, ← ih', cset]
    by_cases hq : f n = -1
    · rw [if_pos hq]
      constructor
      · exact Or.inl
      · rintro (q | q)
        · exact q
        · omega
    · rw [if_neg hq, bt_or, Bool.or_eq_true, bt_shl' (by omega) (by omega) hj]
theorem csetOf_bt {f : Int → Int} {n : Int} {j : Nat} (hj : j < 8) (h : 0 ≤ n → n < 8 → -1 ≤ f n ∧ f n < 8) : bt (csetOf f n) j = true ↔ (0 ≤ n ∧ n < 8 ∧ f n = (j : Int)) := by
  unfold csetOf
  by_cases hq : n < 0 ∨ 8 ≤ n ∨ f n = -1
  · rw [if_pos hq, bt_zero j hj]
    constructor
    · intro h; cases h
    · intro h; omega
  · rw [if_neg hq]
    have := h (by omega) (by omega)
    rw [bt_shl' (by omega) (by omega) hj]
    omega
theorem pinO_bt {c f g : Int → Int} {j : Nat} (hj : j < 8) : ∀ n : Nat, (∀ k : Int, 0 ≤ k → k < (n : Int) → (0 ≤ c k ∧ c k < 8) ∧ (0 ≤ f k ∧ f k < 8) ∧ (0 ≤ g k ∧ g k < 8)) → (bt (pinO c f g n) j = true ↔ ∃ k : Int, 0 ≤ k ∧ k < (n : Int) ∧ (c k = (j : Int) ∨ f k = (j : Int) ∨ g k = (j : Int))) := by
  intro n
  induction n with
  | zero => intro _; simp only [pinO, bt_zero j hj]; constructor
            · intro h; cases h
            · intro h; exact absurd h ex_0
  | succ n ih =>
    intro h
    have ih' := ih (fun k h0 h1 => h k h0 (by omega))
    have hn := h n (by omega) (by omega)
    rw [ex_s, ← ih', pinO, bt_or, bt_or, bt_or, Bool.or_eq_true, Bool.or_eq_true, Bool.or_eq_true, bt_shl' hn.1.1 hn.1.2 hj, bt_shl' hn.2.1.1 hn.2.1.2 hj, bt_shl' hn.2.2.1 hn.2.2.2 hj, or_assoc (a := c n = j)]
theorem pinI_bt {mk : Nat → Int → Int} {n x : Int} {j : Nat} (hj : j < 8) : ∀ i : Nat, (∀ k : Nat, k < i → -1 ≤ mk k n ∧ mk k n < 8) → (bt (pinI mk n x i) j = true ↔ (bt x j = true ∨ ∃ k : Nat, k < i ∧ mk k n = (j : Int))) := by
  intro i
  induction i with
  | zero => intro _; simp only [pinI]; constructor
            · exact Or.inl
            · rintro (h | ⟨k, h, _⟩)
              · exact h
              · omega
  | succ i ih =>
    intro h
    have ih' := ih (fun k h1 => h k (by omega))
    have hn := h i (by omega)
    have hs : (∃ k : Nat, k < i + 1 ∧ mk k n = (j : Int)) ↔ ((∃ k : Nat, k < i ∧ mk k n = (j : Int)) ∨ mk i n = (j : Int)) := by
      constructor
      · rintro ⟨k, h1, h2⟩
        by_cases hk : k = i
        · exact Or.inr (hk ▸ h2)
        · exact Or.inl ⟨k, by omega, h2⟩
      · rintro (⟨k, h1, h2⟩ | h)
        · exact ⟨k, by omega, h2⟩
        · exact ⟨i, by omega, h⟩
    rw [hs, ← or_assoc, ← ih', pinI]
    by_cases hq : mk i n = -1
    · rw [if_pos hq]
      constructor
      · exact Or.inl
      · rintro (q | q)
        · exact q
        · omega
    · rw [if_neg hq, bt_or, Bool.or_eq_true, bt_shl' (by omega) (by omega) hj]
theorem pinN_bt {mk : Nat → Int → Int} {mc : Nat} {x : Int} {j : Nat} (hj : j < 8) : ∀ n : Nat, (∀ i : Nat, i < mc → ∀ k : Int, 0 ≤ k → k < (n : Int) → -1 ≤ mk i k ∧ mk i k < 8) → (bt (pinN mk mc x n) j = true ↔ (bt x j = true ∨ ∃ k : Int, 0 ≤ k ∧ k < (n : Int) ∧ ∃ i : Nat, i < mc ∧ mk i k = (j : Int))) := by
  intro n
  induction n with
  | zero => intro _; simp only [pinN]; constructor
            · exact Or.inl
            · rintro (h | h)
              · exact h
              · exact absurd h ex_0
  | succ n ih =>
    intro h
    have ih' := ih (fun i hi k h0 h1 => h i hi k h0 (by omega))
    rw [ex_s, ← or_assoc, ← ih', pinN, pinI_bt hj mc (fun k hk => h k hk n (by omega) (by omega))]
theorem anyZ_iff {f : Int → Int} {w : Int} : ∀ n : Nat, anyE f w n = true ↔ ∃ k : Int, 0 ≤ k ∧ k < (n : Int) ∧ f k = w := by
  intro n
  induction n with
  | zero => simp only [anyE]; constructor
            · intro h; cases h
            · intro h; exact absurd h ex_0
  | succ n ih => rw [ex_s, ← ih, anyE, Bool.or_eq_true, decide_eq_true_eq]
theorem rdrs_nn {f g : Int → Int} {w : Int} : ∀ n : Nat, 0 ≤ rdrs f g w n := by
  intro n
  induction n with
  | zero => exact Int.le_refl _
  | succ n ih => rw [rdrs]; split <;> omega
theorem rdrs_iff {f g : Int → Int} {w : Int} : ∀ n : Nat, 0 < rdrs f g w n ↔ ∃ k : Int, 0 ≤ k ∧ k < (n : Int) ∧ (f k = w ∨ g k = w) := by
  intro n
  induction n with
  | zero => simp only [rdrs]; constructor
            · intro h; omega
            · intro h; exact absurd h ex_0
  | succ n ih =>
    have := rdrs_nn (f := f) (g := g) (w := w) n
    rw [ex_s, ← ih, rdrs]
    by_cases h : f n = w ∨ g n = w
    · rw [if_pos h]; constructor
      · intro _; exact Or.inr h
      · intro _; omega
    · rw [if_neg h]; constructor
      · intro q; exact Or.inl (by omega)
      · rintro (q | q)
        · omega
        · exact absurd q h
/-- a mask of names -/
theorem nmask_bt {f : Int → Int} {w : Int} {j : Nat} (hj : j < 8) : ∀ n : Nat, n ≤ 8 → (bt (nmask f w n) j = true ↔ (j < n ∧ f j = w)) := by
  intro n
  induction n with
  | zero => intro _; simp only [nmask, bt_zero j hj]; constructor
            · intro h; cases h
            · intro h; omega
  | succ n ih =>
    intro hn
    have ih' := ih (by omega)
    unfold nmask
    by_cases h : f n = w
    · rw [if_pos h, bt_or, Bool.or_eq_true, ih', bt_shl' (by omega) (by omega) hj]
      constructor
      · rintro (⟨h1, h2⟩ | h1)
        · exact ⟨by omega, h2⟩
        · have : n = j := by omega
          exact ⟨by omega, this ▸ h⟩
      · rintro ⟨h1, h2⟩
        by_cases hh : n = j
        · exact Or.inr (by omega)
        · exact Or.inl ⟨by omega, h2⟩
    · rw [if_neg h, ih']
      constructor
      · rintro ⟨h1, h2⟩; exact ⟨by omega, h2⟩
      · rintro ⟨h1, h2⟩
        have : j ≠ n := by intro q; exact h (q ▸ h2)
        exact ⟨by omega, h2⟩
theorem bt_ext256 : ∀ a : Nat, a < 256 → (∀ j : Nat, j < 8 → bt (a : Int) j = false) → a = 0 := by decide +kernel
theorem bt_ne {x : Int} (h0 : 0 ≤ x) (h1 : x < 256) : x ≠ 0 ↔ ∃ j : Nat, j < 8 ∧ bt x j = true := by
  constructor
  · intro h
    refine Classical.byContradiction (fun hc => h ?_)
    have := bt_ext256 x.toNat (by omega) (fun j hj => by
      rw [show ((x.toNat : Nat) : Int) = x by omega]
      cases hb : bt x j
      · rfl
      · exact absurd ⟨j, hj, hb⟩ hc)
    omega
  · rintro ⟨j, hj, hb⟩ h
    rw [h, bt_zero j hj] at hb
    cases hb
theorem nmask_ne {f : Int → Int} {w : Int} : nmask f w 8 ≠ 0 ↔ ∃ k : Int, 0 ≤ k ∧ k < 8 ∧ f k = w := by
  have hr := nmask_256 f w
  rw [bt_ne hr.1 hr.2]
  constructor
  · rintro ⟨j, hj, hb⟩
    exact ⟨j, by omega, by omega, ((nmask_bt hj 8 (Nat.le_refl _)).mp hb).2⟩
  · rintro ⟨k, h0, h1, h2⟩
    refine ⟨k.toNat, by omega, (nmask_bt (by omega) 8 (Nat.le_refl _)).mpr ⟨by omega, ?_⟩⟩
    rw [show ((k.toNat : Nat) : Int) = k by omega]; exact h2
theorem bOr_self (x y : Int) : bOr (bOr x y) y = bOr x y := by
  unfold bOr
  rw [Int32.ofInt_toInt, Int32.or_assoc, Int32.or_self]
theorem bOr_or0 (x y : Int) : bOr (bOr x y) 0 = bOr x y := by
  unfold bOr
  rw [Int32.ofInt_toInt]
  simp
theorem mkI_eq {s : Int → Int} {c : Int} {m : Nat} {x : Int} (hx : bOr x 0 = x) : ∀ n : Nat, mkI s c m x n = if anyE (fun k => s (63 + 16 * (m : Int) + k)) c n = true then bOr x (bShl 1 m) else x := by
  intro n
  induction n with
  | zero => simp [mkI, anyE]
  | succ n ih =>
    rw [mkI, ih, anyE]
    by_cases h : anyE (fun k => s (63 + 16 * (m : Int) + k)) c n = true
    · rw [if_pos h, h, Bool.true_or, if_pos rfl]
      split
      · rw [bOr_self]
      · rw [bOr_or0]
    · rw [if_neg h, Bool.eq_false_iff.mpr h, Bool.false_or]
      by_cases hq : s (63 + 16 * (m : Int) + n) = c
      · rw [if_pos hq, if_pos (by simpa using hq)]
      · rw [if_neg hq, if_neg (by simpa using hq), hx]
theorem mkOn_rng (mk : Nat → Int → Int) (x : Int) : ∀ n : Nat, n ≤ 8 → 0 ≤ mkOn mk x n ∧ mkOn mk x n < ((2 ^ n : Nat) : Int) := by
  intro n
  induction n with
  | zero => intro _; simp [mkOn]
  | succ n ih =>
    intro hn
    have ih' := ih (by omega)
    have h2 : 2 ^ (n + 1) = 2 * 2 ^ n := by rw [Nat.pow_succ]; omega
    rw [mkOn, h2]
    split
    · have := bOr_pow n (by omega) (mkOn mk x n).toNat (by omega)
      rw [show (((mkOn mk x n).toNat : Nat) : Int) = mkOn mk x n by omega] at this
      rw [this]; omega
    · omega
theorem mkOn_bt {mk : Nat → Int → Int} {x : Int} {j : Nat} (hj : j < 8) : ∀ n : Nat, n ≤ 8 → (bt (mkOn mk x n) j = true ↔ (j < n ∧ ∃ k : Int, 0 ≤ k ∧ k < 8 ∧ mk j k = x)) := by
  intro n
  induction n with
  | zero => intro _; simp only [mkOn, bt_zero j hj]; constructor
            · intro h; cases h
            · intro h; omega
  | succ n ih =>
    intro hn
    have ih' := ih (by omega)
    unfold mkOn
    by_cases h : nmask (mk n) x 8 ≠ 0
    · rw [if_pos h, bt_or, Bool.or_eq_true, ih', bt_shl' (by omega) (by omega) hj]
      have h' := nmask_ne.mp h
      constructor
      · rintro (⟨h1, h2⟩ | h1)
        · exact ⟨by omega, h2⟩
        · have : n = j := by omega
          exact ⟨by omega, this ▸ h'⟩
      · rintro ⟨h1, h2⟩
        by_cases hh : n = j
        · exact Or.inr (by omega)
        · exact Or.inl ⟨by omega, h2⟩
    · rw [if_neg h, ih']
      constructor
      · rintro ⟨h1, h2⟩; exact ⟨by omega, h2⟩
      · rintro ⟨h1, h2⟩
        have : j ≠ n := by intro q; exact h (nmask_ne.mpr (q ▸ h2))
        exact ⟨by omega, h2⟩
theorem mkM_mkOn {s : Int → Int} {mk : Nat → Int → Int} {c : Int} : ∀ m : Nat, m ≤ 8 → (∀ i : Nat, i < m → ∀ k : Int, 0 ≤ k → k < 8 → mk i k = s (63 + 16 * (i : Int) + k)) → mkM s c m = mkOn mk c m := by
  intro m
  induction m with
  | zero => intro _ _; rfl
  | succ m ih =>
    intro hm h
    have hr := mkOn_rng mk c m (by omega)
    have h2 : 2 ^ m ≤ 128 := Nat.le_trans (Nat.pow_le_pow_right (by omega) (by omega : m ≤ 7)) (by decide)
    have hx0 : bOr (mkOn mk c m) 0 = mkOn mk c m := by unfold bOr; rw [show Int32.ofInt 0 = 0 from rfl, Int32.or_zero]; exact mI_toInt (x := mkOn mk c m) ⟨by omega, by omega⟩
    rw [mkM, ih (by omega) (fun i hi => h i (by omega)), mkI_eq (x := mkOn mk c m) hx0, mkOn]
    have e : (anyE (fun k => s (63 + 16 * (m : Int) + k)) c 8 = true) ↔ nmask (mk m) c 8 ≠ 0 := by
      rw [anyZ_iff, nmask_ne]
      constructor
      · rintro ⟨k, h0, h1, q⟩; exact ⟨k, h0, h1, by rw [h m (by omega) k h0 h1]; exact q⟩
      · rintro ⟨k, h0, h1, q⟩; exact ⟨k, h0, h1, by rw [← h m (by omega) k h0 h1]; exact q⟩
    by_cases hq : nmask (mk m) c 8 ≠ 0
    · rw [if_pos (e.mpr hq), if_pos hq]
    · rw [if_neg (fun q => hq (e.mp q)), if_neg hq]
/-- the chairs that a row of the model needs -/
def hadP (s : Int → Int) (c : Int) : Prop := ∃ k : Int, 0 ≤ k ∧ k < 8 ∧ s (12 + k) = c
def mrkP (s : Int → Int) (c : Int) : Prop := ∃ m : Int, 0 ≤ m ∧ m < s 2 ∧ ∃ k : Int, 0 ≤ k ∧ k < 8 ∧ s (63 + 16 * m + k) = c
def redP (s : Int → Int) (c : Int) : Prop := ∃ k : Int, 0 ≤ k ∧ k < s 3 ∧ (s (111 + 7 * k + 2) = c ∨ s (111 + 7 * k + 3) = c)
def ordP (s : Int → Int) (c : Int) : Prop := ∃ k : Int, 0 ≤ k ∧ k < s 3 ∧ s (111 + 7 * k + 1) = c
def pinP (s : Int → Int) (c : Int) : Prop := mrkP s c ∨ redP s c ∨ ordP s c
def need (s : Int → Int) (c : Int) : Prop := hadP s c ∨ pinP s c
theorem hadM_iff {s : Int → Int} {c : Int} : hadM s c = true ↔ hadP s c := anyZ_iff 8
theorem rdM_iff {s : Int → Int} {c : Int} {n : Nat} (hn : s 3 = n) : 0 < rdM s c n ↔ redP s c := by
  unfold rdM redP
  rw [rdrs_iff n, hn]
theorem rdM_nn {s : Int → Int} {c : Int} {n : Nat} : 0 ≤ rdM s c n := rdrs_nn n
theorem ofM_iff {s : Int → Int} {c : Int} {n : Nat} (hn : s 3 = n) : ofM s c n = true ↔ ordP s c := by
  unfold ofM ordP
  rw [anyZ_iff n, hn]
theorem mkM_rng {s : Int → Int} {c : Int} {m : Nat} (hm : m ≤ 3) : 0 ≤ mkM s c m ∧ mkM s c m < 8 := by
  rw [mkM_mkOn (mk := fun i k => s (63 + 16 * (i : Int) + k)) m (by omega) (fun i _ k _ _ => rfl)]
  have := mkOn_rng (fun i k => s (63 + 16 * (i : Int) + k)) c m (by omega)
  have h2 : 2 ^ m ≤ 8 := Nat.le_trans (Nat.pow_le_pow_right (by omega) hm) (by decide)
  omega
theorem mkM_iff {s : Int → Int} {c : Int} {m : Nat} (hm : s 2 = m) (hm3 : m ≤ 3) : 0 < mkM s c m ↔ mrkP s c := by
  have hr := mkM_rng (s := s) (c := c) hm3
  have h1 : 0 < mkM s c m ↔ mkM s c m ≠ 0 := by omega
  rw [h1, bt_ne hr.1 (by omega)]
  rw [mkM_mkOn (mk := fun i k => s (63 + 16 * (i : Int) + k)) m (by omega) (fun i _ k _ _ => rfl)]
  unfold mrkP
  constructor
  · rintro ⟨j, hj, hb⟩
    obtain ⟨h1, k, h2, h3, h4⟩ := (mkOn_bt hj m (by omega)).mp hb
    exact ⟨j, by omega, by omega, k, h2, h3, h4⟩
  · rintro ⟨j, h0, h1, k, h2, h3, h4⟩
    refine ⟨j.toNat, by omega, (mkOn_bt (by omega) m (by omega)).mpr ⟨by omega, k, h2, h3, ?_⟩⟩
    show s (63 + 16 * ((j.toNat : Nat) : Int) + k) = c
    rw [show ((j.toNat : Nat) : Int) = j by omega]; exact h4
theorem ndM_iff {s : Int → Int} {n m : Nat} {c : Int} (hn : s 3 = n) (hm : s 2 = m) (hm3 : m ≤ 3) : ndM s n m c = true ↔ need s c := by
  unfold ndM need pinP
  rw [Bool.or_eq_true, Bool.or_eq_true, Bool.or_eq_true, decide_eq_true_eq, decide_eq_true_eq, hadM_iff, mkM_iff hm hm3, rdM_iff hn, ofM_iff hn, or_assoc, or_assoc]
