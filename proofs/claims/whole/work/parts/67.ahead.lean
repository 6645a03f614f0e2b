/-! ===== the mathematics: many ticks, and how many there must be ===== -/
theorem tks_R {I : mIt} {b n m nc : Nat} {s : Int → Int} (h : RR I b s) (hn : s 3 = n) (hm : s 2 = m) (hc : s 0 = nc) : ∀ j : Nat, s 1 + j ≤ 60000 → RR (tks I b n j).1 b (tkM s n m nc j).1 ∧ (tks I b n j).2 = (tkM s n m nc j).2 ∧ (tkM s n m nc j).1 3 = ((tkM s n m nc j).2 : Nat) ∧ (tkM s n m nc j).2 ≤ n ∧
    (tkM s n m nc j).1 1 = s 1 + j ∧ (tkM s n m nc j).1 4 = s 4 + ((n : Int) - ((tkM s n m nc j).2 : Nat)) ∧ (∀ i : Int, i < 12 → i ≠ 1 → i ≠ 3 → i ≠ 4 → (tkM s n m nc j).1 i = s i) := by
  intro j
  induction j with
  | zero => intro _; exact ⟨h, rfl, hn, Nat.le_refl _, by simp [tkM], by simp [tkM], fun i _ _ _ _ => rfl⟩
  | succ j ih =>
    intro hj
    obtain ⟨r, e2, e3, e5, e6, e7, e8⟩ := ih (by omega)
    rw [tks, tkM]
    simp only
    rw [e2]
    have t := tick_R (n := (tkM s n m nc j).2) (m := m) (nc := nc) r e3 (by rw [e8 2 (by omega) (by omega) (by omega) (by omega)]; exact hm) (by rw [e8 0 (by omega) (by omega) (by omega) (by omega)]; exact hc) (by rw [e6]; omega)
    obtain ⟨t1, t2, t3, t4, t5, t6, t7⟩ := t
    refine ⟨t1, t2.symm, by rw [t4, t2], by rw [t2]; omega, by rw [t6, e6]; omega, by rw [t5, e7, t2]; omega, fun i a1 a2 a3 a4 => by rw [t7 i a1 a2 a3 a4, e8 i a1 a2 a3 a4]⟩
theorem tks_shift (I : mIt) (b n : Nat) : ∀ j : Nat, tks I b n (j + 1) = tks (tkI I b n) b (tkN I b n) j := by
  intro j
  induction j with
  | zero => rfl
  | succ j ih => rw [tks, ih]; rfl
theorem fstF_spec {p : Nat → Bool} : ∀ f j0 : Nat, (∃ J, j0 ≤ J ∧ J < j0 + f ∧ p J = true) → p (fstF p f j0) = true ∧ j0 ≤ fstF p f j0 ∧ fstF p f j0 < j0 + f ∧ ∀ j, j0 ≤ j → j < fstF p f j0 → p j = false := by
  intro f
  induction f with
  | zero => rintro j0 ⟨J, h1, h2, _⟩; omega
  | succ f ih =>
    rintro j0 ⟨J, h1, h2, h3⟩
    rw [fstF]
    by_cases q : p j0 = true
    · rw [if_pos q]; exact ⟨q, Nat.le_refl _, by omega, fun j a b => by omega⟩
    · rw [if_neg q]
      have hJ : j0 ≠ J := by intro z; rw [z] at q; exact q h3
      obtain ⟨r1, r2, r3, r4⟩ := ih (j0 + 1) ⟨J, by omega, by omega, h3⟩
      refine ⟨r1, by omega, by omega, fun j a b => ?_⟩
      by_cases z : j = j0
      · rw [z]; simpa using q
      · exact r4 j (by omega) b
/-- the ticks until a chair's version is known, seen from now; and until the first order is done -/
def wtC (I : mIt) (b : Nat) (c : Int) : Int := if I (b + 7) c ≤ I b 1 then 0 else I (b + 7) c - I b 1
def m0F (I : mIt) (b : Nat) : Int := if I (b + 7) (I (b + 11) 0) = 1000000 then 10 + (if wtC I b (I (b + 12) 0) ≤ wtC I b (I (b + 13) 0) then wtC I b (I (b + 13) 0) else wtC I b (I (b + 12) 0)) else I (b + 7) (I (b + 11) 0) - I b 1
/-- the first order's facts -/
theorem ord0 {I : mIt} {b : Nat} {s : Int → Int} (h : RR I b s) (h0 : 0 < s 3) : (0 ≤ I (b + 11) 0 ∧ I (b + 11) 0 < 7) ∧ (0 ≤ I (b + 12) 0 ∧ I (b + 12) 0 < 7) ∧ (0 ≤ I (b + 13) 0 ∧ I (b + 13) 0 < 7) ∧ I b 1 = s 1 ∧
    (I (b + 7) (I (b + 11) 0) = 1000000 ∨ (s 1 < I (b + 7) (I (b + 11) 0) ∧ I (b + 7) (I (b + 11) 0) ≤ s 1 + 9)) ∧ I (b + 7) (I (b + 12) 0) ≤ s 1 + 9 ∧ I (b + 7) (I (b + 13) 0) ≤ s 1 + 9 ∧ (0 ≤ s 1 ∧ s 1 ≤ 60000) := by
  obtain ⟨⟨hH, hN, hM, hO, hQ, hW, hV, eH, eN, eM, eO, eC, eD, hR⟩, hX, hz, hd, hsat⟩ := h
  have o := hO 0 (by omega) h0
  have e := eO 0 (by omega) h0
  have d := (eD 0 (by omega) h0).1
  have h7 := hH.1
  simp only at e
  have nonord : ∀ c : Int, 0 ≤ c → c < s 0 → redP s c → (∀ j : Int, 0 ≤ j → j < s 3 → c ≠ s (111 + 7 * j + 1)) → I (b + 7) c ≤ s 1 + 9 := by
    intro c c0 c1 rc nc
    have q := (eC c c0 c1 (Or.inr (Or.inr (Or.inl rc)))).2
    rcases q with q | q
    · obtain ⟨⟨j, j0, j1, f⟩, _⟩ := q
      exact absurd f.symm (nc j j0 j1)
    · omega
  rw [e.2.1, e.2.2.1, e.2.2.2.1]
  refine ⟨by omega, by omega, by omega, eH.2.1, ?_, nonord _ (by omega) (by omega) ⟨0, by omega, h0, Or.inl rfl⟩ (fun j j0 j1 => (hQ.2.1 0 j (by omega) j0 j1).1), nonord _ (by omega) (by omega) ⟨0, by omega, h0, Or.inr rfl⟩ (fun j j0 j1 => (hQ.2.1 0 j (by omega) j0 j1).2), hH.2.1⟩
  rcases d with z | z
  · exact Or.inl z.2
  · right; omega
theorem m0_rng {I : mIt} {b : Nat} {s : Int → Int} (h : RR I b s) (h0 : 0 < s 3) : 0 ≤ m0F I b ∧ m0F I b ≤ 19 := by
  obtain ⟨q1, q2, q3, q4, q5, q6, q7, q8⟩ := ord0 h h0
  unfold m0F wtC
  omega
theorem boS_keep {K : mIt} {b : Nat} {c : Int} {i0 : Nat} : ∀ i : Nat, i0 ≤ i → (∀ j : Nat, i0 ≤ j → j < i → K (b + 11) j ≠ c) → (boS K b i).2 c = (boS K b i0).2 c := by
  intro i
  induction i with
  | zero => intro h _; have : i0 = 0 := by omega
            rw [this]
  | succ i ih =>
    intro h hc
    by_cases q : i0 = i + 1
    · rw [q]
    · have e := ih (by omega) (fun j a1 a2 => hc j a1 (by omega))
      have n := hc i (by omega) (by omega)
      rw [boS]
      split
      · simp only
        split
        · rw [fset_ne _ _ (Ne.symm n)]; exact e
        · exact e
      · exact e
theorem first_kept {I : mIt} {b : Nat} (hk : I b 1 < kOf (I (b + 7)) (I (b + 11) 0)) : ∀ i : Nat, 1 ≤ i → i ≤ 6 → 1 ≤ foL I b i ∧ foM I b i (b + 11) 0 = I (b + 11) 0 ∧ foM I b i (b + 12) 0 = I (b + 12) 0 ∧ foM I b i (b + 13) 0 = I (b + 13) 0 := by
  intro i
  induction i with
  | zero => intro h; omega
  | succ i ih =>
    intro _ h6
    rw [foL, foM]
    by_cases q : i = 0
    · subst q
      have hk' : I b 1 < kOf (I (b + 7)) (I (b + 11) ((0 : Nat) : Int)) := hk
      rw [if_pos hk', if_pos hk']
      have o := (oMove_at (I := I) (b := b) (i := 0) (k := 0) (by omega) (by omega)).2 0
      refine ⟨by omega, ?_, ?_, ?_⟩
      · exact o.2.1
      · exact o.2.2.1
      · exact o.2.2.2.1
    · obtain ⟨r1, r2, r3, r4⟩ := ih (by omega) (by omega)
      split
      · have o := (oMove_at (I := foM I b i) (b := b) (i := i) (k := foL I b i) (by omega) (foL_le I b i)).2 0
        refine ⟨by omega, ?_, ?_, ?_⟩
        · rw [o.2.1, if_neg (by omega)]; exact r2
        · rw [o.2.2.1, if_neg (by omega)]; exact r3
        · rw [o.2.2.2.1, if_neg (by omega)]; exact r4
      · exact ⟨r1, r2, r3, r4⟩
theorem first_done {I : mIt} {b : Nat} (hk : ¬ I b 1 < kOf (I (b + 7)) (I (b + 11) 0)) : ∀ i : Nat, 1 ≤ i → foL I b i ≤ i - 1 := by
  intro i
  induction i with
  | zero => intro h; omega
  | succ i ih =>
    intro _
    rw [foL]
    by_cases q : i = 0
    · subst q; rw [if_neg (by simpa using hk)]; simp [foL]
    · have := ih (by omega)
      split <;> omega
theorem tick_m0 {I : mIt} {b n m nc : Nat} {s : Int → Int} (h : RR I b s) (hn : s 3 = n) (hm : s 2 = m) (hc : s 0 = nc) (hT : s 1 + 1 ≤ 60000) (h0 : 0 < n) : tkN I b n < n ∨ (0 < tkN I b n ∧ m0F (tkI I b n) b < m0F I b) := by
  obtain ⟨q1, q2, q3, q4, q5, q6, q7, q8⟩ := ord0 h (by omega)
  have hn6 : n ≤ 6 := by have := h.1.1.2.2.2.1; omega
  have hs := h.1.1.2.2.2.2
  have eH := h.1.2.2.2.2.2.2.2.1.2.2.2.2
  have I1 : ∀ z : Nat, z ≠ b → mUp I b 1 (I b 1 + 1) z = I z := fun z hz => mUp_ne _ _ _ hz
  have Ib1 : mUp I b 1 (I b 1 + 1) b 1 = I b 1 + 1 := by rw [mUp_at, fset_at]
  have ko : kOf (mUp I b 1 (I b 1 + 1) (b + 7)) (mUp I b 1 (I b 1 + 1) (b + 11) 0) = I (b + 7) (I (b + 11) 0) := by
    rw [I1 _ (by omega), I1 _ (by omega)]; unfold kOf; rw [if_pos ⟨q1.1, q1.2⟩]
  by_cases hk : I b 1 + 1 < I (b + 7) (I (b + 11) 0)
  · right
    have fk := first_kept (I := mUp I b 1 (I b 1 + 1)) (b := b) (by rw [ko, Ib1]; exact hk) n (by omega) hn6
    refine ⟨fk.1, ?_⟩
    obtain ⟨r, e1, e2, e3, e4, e5, e6⟩ := ticked_R h hn hm hc hT
    -- the room behind the orders that are done
    have K7 : finI (mUp I b 1 (I b 1 + 1)) b n (b + 7) = I (b + 7) := by rw [finI_ne _ _ (by omega) (by omega), I1 _ (by omega)]
    have Kb1 : finI (mUp I b 1 (I b 1 + 1)) b n b 1 = I b 1 + 1 := by rw [finI_b _ _ _ (by omega), Ib1]
    have Ks : finI (mUp I b 1 (I b 1 + 1)) b n (b + 1) = I (b + 1) := by rw [finI_ne _ _ (by omega) (by omega), I1 _ (by omega)]
    have Ko : ∀ y : Nat, b + 10 ≤ y → y ≤ b + 14 → finI (mUp I b 1 (I b 1 + 1)) b n y = foM (mUp I b 1 (I b 1 + 1)) b n y := fun y y1 y2 => by
      unfold finI; rw [mUp_ne _ _ _ (by omega), mUp_ne _ _ _ (by omega)]
    have K11 : finI (mUp I b 1 (I b 1 + 1)) b n (b + 11) 0 = I (b + 11) 0 := by rw [Ko _ (by omega) (by omega), fk.2.1, I1 _ (by omega)]
    have K12 : finI (mUp I b 1 (I b 1 + 1)) b n (b + 12) 0 = I (b + 12) 0 := by rw [Ko _ (by omega) (by omega), fk.2.2.1, I1 _ (by omega)]
    have K13 : finI (mUp I b 1 (I b 1 + 1)) b n (b + 13) 0 = I (b + 13) 0 := by rw [Ko _ (by omega) (by omega), fk.2.2.2, I1 _ (by omega)]
    have kQ := r.1.2.2.2.2.1
    have kO := r.1.2.2.2.2.2.2.2.2.2.2.1
    have n1 : 1 ≤ tkN I b n := fk.1
    have kOj : ∀ j : Nat, j < tkN I b n → finI (mUp I b 1 (I b 1 + 1)) b n (b + 11) j = tdS s n m nc (111 + 7 * (j : Int) + 1) := fun j hj => (kO j (by omega) (by omega)).2.1
    have k0 := kO 0 (by omega) (by omega)
    simp only at k0
    -- the tick's end
    have J7 : tkI I b n (b + 7) = (boS (finI (mUp I b 1 (I b 1 + 1)) b n) b (tkN I b n)).2 := by
      show begI _ _ _ (b + 7) = _
      unfold begI; rw [arS_at]; rfl
    have Jn : ∀ z : Nat, z ≠ b + 7 → tkI I b n z = finI (mUp I b 1 (I b 1 + 1)) b n z := fun z hz => by
      show begI _ _ _ z = _
      unfold begI; rw [arS_ne _ _ hz]
    have kt : (boS (finI (mUp I b 1 (I b 1 + 1)) b n) b (tkN I b n)).2 (I (b + 11) 0) = (boS (finI (mUp I b 1 (I b 1 + 1)) b n) b 1).2 (I (b + 11) 0) := boS_keep _ n1 (fun j a1 a2 => by
      rw [kOj j a2, ← K11, k0.2.1]
      exact Ne.symm (kQ.1 0 j (by omega) (by omega) (by omega)).2)
    have kf : (boS (finI (mUp I b 1 (I b 1 + 1)) b n) b (tkN I b n)).2 (I (b + 12) 0) = I (b + 7) (I (b + 12) 0) := by
      rw [boS_keep (i0 := 0) _ (by omega) (fun j a1 a2 => by
        rw [kOj j a2, ← K12, k0.2.2.1]
        exact Ne.symm (kQ.2.1 0 j (by omega) (by omega) (by omega)).1)]
      rw [boS, K7]
    have kg : (boS (finI (mUp I b 1 (I b 1 + 1)) b n) b (tkN I b n)).2 (I (b + 13) 0) = I (b + 7) (I (b + 13) 0) := by
      rw [boS_keep (i0 := 0) _ (by omega) (fun j a1 a2 => by
        rw [kOj j a2, ← K13, k0.2.2.2.1]
        exact Ne.symm (kQ.2.1 0 j (by omega) (by omega) (by omega)).2)]
      rw [boS, K7]
    have b1 : (boS (finI (mUp I b 1 (I b 1 + 1)) b n) b 1).2 (I (b + 11) 0) = if I (b + 7) (I (b + 11) 0) = 1000000 ∧ I (b + 7) (I (b + 12) 0) ≤ I b 1 + 1 ∧ I (b + 7) (I (b + 13) 0) ≤ I b 1 + 1 then I b 1 + 1 + I (b + 1) (if finI (mUp I b 1 (I b 1 + 1)) b n (b + 10) 0 = 2 then 1 else 0) else I (b + 7) (I (b + 11) 0) := by
      have c1 : kOf (I (b + 7)) (I (b + 11) 0) = I (b + 7) (I (b + 11) 0) := by unfold kOf; rw [if_pos ⟨q1.1, q1.2⟩]
      have c2 : kOf (I (b + 7)) (I (b + 12) 0) = I (b + 7) (I (b + 12) 0) := by unfold kOf; rw [if_pos ⟨q2.1, q2.2⟩]
      have c3 : kOf (I (b + 7)) (I (b + 13) 0) = I (b + 7) (I (b + 13) 0) := by unfold kOf; rw [if_pos ⟨q3.1, q3.2⟩]
      show (boS (finI (mUp I b 1 (I b 1 + 1)) b n) b (0 + 1)).2 (I (b + 11) 0) = _
      rw [boS, boS]
      simp only
      rw [show ((0 : Nat) : Int) = 0 from rfl, K7, K11, K12, K13, Kb1, Ks, c1, c2, c3]
      by_cases z : I (b + 7) (I (b + 11) 0) = 1000000 ∧ I (b + 7) (I (b + 12) 0) ≤ I b 1 + 1 ∧ I (b + 7) (I (b + 13) 0) ≤ I b 1 + 1
      · rw [if_pos ⟨z, by omega⟩, if_pos z]
        simp only
        rw [if_pos ⟨q1.1, q1.2⟩, fset_at]
      · rw [if_neg (fun y => z y.1), if_neg z]
    have set9 : 1 ≤ I (b + 1) (if finI (mUp I b 1 (I b 1 + 1)) b n (b + 10) 0 = 2 then 1 else 0) ∧ I (b + 1) (if finI (mUp I b 1 (I b 1 + 1)) b n (b + 10) 0 = 2 then 1 else 0) ≤ 9 := by
      split
      · omega
      · omega
    unfold m0F wtC
    rw [Jn (b + 11) (by omega), Jn (b + 12) (by omega), Jn (b + 13) (by omega), Jn b (by omega), K11, K12, K13, Kb1, J7, kt, kf, kg, b1]
    generalize I (b + 1) (if finI (mUp I b 1 (I b 1 + 1)) b n (b + 10) 0 = 2 then 1 else 0) = dd at *
    omega
  · left
    have fd := first_done (I := mUp I b 1 (I b 1 + 1)) (b := b) (by rw [ko, Ib1]; exact hk) n (by omega)
    show foL (mUp I b 1 (I b 1 + 1)) b n < n
    omega
theorem idle_ex {b : Nat} : ∀ (F : Nat) (I : mIt) (s : Int → Int) (n : Nat), RR I b s → s 3 = n → s 1 + F ≤ 60000 → (0 < n → 20 * (n : Int) + m0F I b ≤ F) → ∃ J, J ≤ F ∧ (tks I b n J).2 = 0 := by
  intro F
  induction F with
  | zero =>
    intro I s n h hn hT hF
    by_cases q : n = 0
    · exact ⟨0, Nat.le_refl _, q⟩
    · have := hF (by omega)
      have := m0_rng h (by omega)
      omega
  | succ F ih =>
    intro I s n h hn hT hF
    by_cases q : n = 0
    · exact ⟨0, by omega, q⟩
    · obtain ⟨m, hm⟩ : ∃ m : Nat, s 2 = m := ⟨(s 2).toNat, by have := h.1.1.2.2.1; omega⟩
      obtain ⟨nc, hc⟩ : ∃ nc : Nat, s 0 = nc := ⟨(s 0).toNat, by have := h.1.1.1; omega⟩
      obtain ⟨t1, t2, t3, t4, t5, t6, t7⟩ := tick_R h hn hm hc (by omega)
      have hf := hF (by omega)
      have m0 := m0_rng h (by omega)
      have dec := tick_m0 h hn hm hc (by omega) (by omega)
      obtain ⟨J, j1, j2⟩ := ih (tkI I b n) (tsS s n m nc) (tkN I b n) t1 t4 (by omega) (fun hp => by
        have m1 := m0_rng t1 (by omega)
        rcases dec with z | z <;> omega)
      exact ⟨J + 1, by omega, by rw [tks_shift]; exact j2⟩
