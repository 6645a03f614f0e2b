/-! ===== the mathematics: all orders that are done go ===== -/
theorem oMove_at {I : mIt} {b i k : Nat} (hi : i < 6) (hk : k ≤ i) : (∀ z : Nat, (z < b + 10 ∨ b + 14 < z) → oMove I (b + 10) (b + 11) (b + 12) (b + 13) (b + 14) i k z = I z) ∧
    (∀ p : Int, oMove I (b + 10) (b + 11) (b + 12) (b + 13) (b + 14) i k (b + 10) p = I (b + 10) (if p = k then i else p) ∧ oMove I (b + 10) (b + 11) (b + 12) (b + 13) (b + 14) i k (b + 11) p = I (b + 11) (if p = k then i else p) ∧ oMove I (b + 10) (b + 11) (b + 12) (b + 13) (b + 14) i k (b + 12) p = I (b + 12) (if p = k then i else p) ∧
      oMove I (b + 10) (b + 11) (b + 12) (b + 13) (b + 14) i k (b + 13) p = I (b + 13) (if p = k then i else p) ∧ oMove I (b + 10) (b + 11) (b + 12) (b + 13) (b + 14) i k (b + 14) p = I (b + 14) (if p = k then i else p)) := by
  by_cases q : k < i
  · have e : oMove I (b + 10) (b + 11) (b + 12) (b + 13) (b + 14) i k = mUp (mUp (mUp (mUp (mUp I (b + 10) k (I (b + 10) i)) (b + 11) k (I (b + 11) i)) (b + 12) k (I (b + 12) i)) (b + 13) k (I (b + 13) i)) (b + 14) k (I (b + 14) i) := by
      unfold oMove; rw [if_pos ⟨by omega, by omega, by omega, by omega⟩]
    have fs : ∀ (f : Int → Int) (p : Int), fset f k (f i) p = f (if p = k then (i : Int) else p) := fun f p => by
      by_cases z : p = k
      · rw [z, fset_at, if_pos rfl]
      · rw [fset_ne _ _ z, if_neg z]
    rw [e]
    refine ⟨fun z hz => ?_, fun p => ⟨?_, ?_, ?_, ?_, ?_⟩⟩
    · rw [mUp_ne _ _ _ (by omega), mUp_ne _ _ _ (by omega), mUp_ne _ _ _ (by omega), mUp_ne _ _ _ (by omega), mUp_ne _ _ _ (by omega)]
    · rw [mUp_ne _ _ _ (by omega), mUp_ne _ _ _ (by omega), mUp_ne _ _ _ (by omega), mUp_ne _ _ _ (by omega), mUp_at, fs]
    · rw [mUp_ne _ _ _ (by omega), mUp_ne _ _ _ (by omega), mUp_ne _ _ _ (by omega), mUp_at, mUp_ne _ _ _ (by omega), fs]
    · rw [mUp_ne _ _ _ (by omega), mUp_ne _ _ _ (by omega), mUp_at, mUp_ne _ _ _ (by omega), mUp_ne _ _ _ (by omega), fs]
    · rw [mUp_ne _ _ _ (by omega), mUp_at, mUp_ne _ _ _ (by omega), mUp_ne _ _ _ (by omega), mUp_ne _ _ _ (by omega), fs]
    · rw [mUp_at, mUp_ne _ _ _ (by omega), mUp_ne _ _ _ (by omega), mUp_ne _ _ _ (by omega), mUp_ne _ _ _ (by omega), fs]
  · have e : oMove I (b + 10) (b + 11) (b + 12) (b + 13) (b + 14) i k = I := by
      unfold oMove; rw [if_neg (by omega)]
    have ik : i = k := by omega
    rw [e]
    refine ⟨fun z hz => rfl, fun p => ?_⟩
    have : (if p = (k : Int) then (i : Int) else p) = p := by split <;> omega
    rw [this]
    exact ⟨rfl, rfl, rfl, rfl, rfl⟩
/-- what the relation knows of the room -/
theorem Rg_J {Tc To : Int} {ph qh : Int → Int} {I J : mIt} {b : Nat} {s : Int → Int} (h : Rg Tc To ph I b s) (hJ : ∀ z : Nat, z ≠ b → z ≠ b + 9 → (z < b + 10 ∨ b + 14 < z) → J z = I z) (hb : ∀ k : Int, k ≠ 2 → J b k = I b k) (hO : EqO J b s qh) : Rg Tc To qh J b s := by
  obtain ⟨hH, hN, hM, hO', hQ, hW, hV, eH, eN, eM, eO, eC, eD, hR⟩ := h
  refine ⟨hH, hN, hM, hO', hQ, hW, hV, ?_, ?_, ?_, hO, ?_, ?_, ?_⟩
  · unfold EqH at *
    rw [hb 0 (by omega), hb 1 (by omega), hb 3 (by omega), hb 6 (by omega), hJ (b + 1) (by omega) (by omega) (by omega)]; exact eH
  · intro k a1 a2
    rw [hJ (b + 3) (by omega) (by omega) (by omega), hJ (b + 4) (by omega) (by omega) (by omega)]; exact eN k a1 a2
  · intro m a1 a2 k a3 a4
    rw [hJ (mC b m) (by unfold mC; omega) (by unfold mC; omega) (by unfold mC; omega), hJ (mH b m) (by unfold mH; omega) (by unfold mH; omega) (by unfold mH; omega)]; exact eM m a1 a2 k a3 a4
  · intro c a1 a2 a3
    have r := eC c a1 a2 a3
    unfold chR at *
    rw [hJ (b + 8) (by omega) (by omega) (by omega), hJ (b + 6) (by omega) (by omega) (by omega), hJ (b + 7) (by omega) (by omega) (by omega), hb 5 (by omega)]; exact r
  · intro k a1 a2
    have r := eD k a1 a2
    unfold orR at *
    rw [hJ (b + 6) (by omega) (by omega) (by omega), hJ (b + 7) (by omega) (by omega) (by omega)]; exact r
  · intro c a1 a2
    rw [hJ (b + 6) (by omega) (by omega) (by omega), hJ (b + 7) (by omega) (by omega) (by omega)]; exact hR c a1 a2
theorem finish_R {I : mIt} {b n : Nat} {t : Int → Int} {T : Int} (h : Rg (T + 1) T (fun k => k) I b t) (h1 : t 1 = T + 1) (hn : t 3 = n) (T0 : 0 ≤ T) : ∀ i : Nat, i ≤ n → foL I b i ≤ i ∧
    ∃ r : Int → Int, dnS n t n 0 = dnS (n - i) r (n - (i - foL I b i)) (foL I b i) ∧ Rg (T + 1) T (phD i (foL I b i)) (foM I b i) b r ∧ r 3 = (n : Int) - ((i : Int) - (foL I b i : Nat)) ∧ r 4 = t 4 + ((i : Int) - (foL I b i : Nat)) ∧ (∀ j : Int, j < 12 → j ≠ 3 → j ≠ 4 → r j = t j) ∧
      (∀ p : Int, 0 ≤ p → p < (foL I b i : Nat) → r (111 + 7 * p + 4) = -1 ∨ T + 1 < r (111 + 7 * p + 4)) ∧ (∀ z : Nat, (z < b + 10 ∨ b + 14 < z) → foM I b i z = I z) ∧ (∀ p : Int, (i : Int) ≤ p → foM I b i (b + 11) p = I (b + 11) p) := by
  intro i
  induction i with
  | zero =>
    intro _
    refine ⟨Nat.le_refl _, t, by simp [foL], ?_, by simp [foL]; exact hn, by simp [foL], fun j _ _ _ => rfl, fun p a1 a2 => by simp [foL] at a2; omega, fun z _ => rfl, fun p _ => rfl⟩
    have e : phD 0 0 = fun k => k := by funext p; unfold phD; split <;> omega
    show Rg (T + 1) T (phD 0 0) I b t
    rw [e]; exact h
  | succ i ih =>
    intro hi
    obtain ⟨ik, r, q1, q2, q3, q4, q5, q6, q7, q8⟩ := ih (by omega)
    have hn6 : n ≤ 6 := by have := h.1.2.2.2.1; omega
    generalize hk : foL I b i = k at *
    have q2' := q2
    obtain ⟨hH, hN, hM, hO, hQ, hW, hV, eH, eN, eM, eO, eC, eD, hR⟩ := q2
    have h7 := hH.1
    have hT6 := hH.2.1
    have ok := hO k (by omega) (by omega)
    have ek := (eO k (by omega) (by omega)).2.1
    have dk := (eD k (by omega) (by omega)).1
    have phk : phD i k k = i := by unfold phD; rw [if_neg (by omega)]; omega
    rw [phk, q8 i (by omega)] at ek
    rw [q7 (b + 7) (by omega)] at dk
    have kof : kOf (I (b + 7)) (I (b + 11) i) = I (b + 7) (r (111 + 7 * (k : Int) + 1)) := by
      rw [ek]; unfold kOf; rw [if_pos (by omega)]
    have ib1 : I b 1 = T + 1 := by rw [h.2.2.2.2.2.2.2.1.2.1, h1]
    have r1 : r 1 = T + 1 := by rw [q5 1 (by omega) (by omega) (by omega)]; exact h1
    have fuel : n - i = (n - (i + 1)) + 1 := by omega
    rw [foL, foM, kof, ib1, hk]
    rw [fuel, dnS, r1] at q1
    by_cases c : T + 1 < I (b + 7) (r (111 + 7 * (k : Int) + 1))
    · -- kept
      rw [if_pos c, if_pos c]
      have c' : ¬ (0 ≤ r (111 + 7 * (k : Int) + 4) ∧ r (111 + 7 * (k : Int) + 4) ≤ T + 1) := by rcases dk with z | z <;> omega
      rw [if_neg c'] at q1
      obtain ⟨o1, o2⟩ := oMove_at (I := foM I b i) (b := b) (i := i) (k := k) (by omega) ik
      refine ⟨by omega, r, ?_, ?_, by rw [q3]; omega, by rw [q4]; omega, q5, ?_, ?_, ?_⟩
      · rw [q1, show n - (i + 1 - (k + 1)) = n - (i - k) by omega]
      · refine Rg_J q2' (fun z z1 z2 z3 => o1 z z3) (fun z _ => by rw [o1 b (by omega)]) (fun p a1 a2 => ?_)
        have e := eO p a1 a2
        have w : (if phD (i + 1) (k + 1) p = (k : Int) then (i : Int) else phD (i + 1) (k + 1) p) = phD i k p := by
          unfold phD
          by_cases z : p < (k : Int)
          · rw [if_pos (show p < ((k + 1 : Nat) : Int) by omega), if_neg (by omega), if_pos z]
          · by_cases z2 : p = (k : Int)
            · rw [if_pos (show p < ((k + 1 : Nat) : Int) by omega), if_pos z2, if_neg z]; omega
            · rw [if_neg (show ¬ p < ((k + 1 : Nat) : Int) by omega), if_neg (by omega), if_neg z]; omega
        have := o2 (phD (i + 1) (k + 1) p)
        rw [this.1, this.2.1, this.2.2.1, this.2.2.2.1, this.2.2.2.2, w]
        exact e
      · intro p a1 a2
        by_cases z : p = (k : Int)
        · subst z; rcases dk with z | z
          · exact Or.inl z.1
          · right; omega
        · exact q6 p a1 (by omega)
      · intro z hz
        rw [o1 z hz, q7 z hz]
      · intro p hp
        rw [(o2 p).2.1, if_neg (by omega), q8 p (by omega)]
    · -- done
      rw [if_neg c, if_neg c]
      have c' : 0 ≤ r (111 + 7 * (k : Int) + 4) ∧ r (111 + 7 * (k : Int) + 4) ≤ T + 1 := by rcases dk with z | z <;> omega
      rw [if_pos c'] at q1
      obtain ⟨d1, d2, d3, d4, d5⟩ := done_R (n := n - (i - k)) q2' r1 (by rw [q3]; omega) (by omega) ik T0 c'
      refine ⟨by omega, dnT r (n - (i - k)) k, ?_, d1, by rw [d2]; omega, by rw [d3, q4]; omega, fun j a1 a2 a3 => by rw [d4 j a1 a2 a3, q5 j a1 a2 a3], fun p a1 a2 => by rw [d5 p a1 a2]; exact q6 p a1 a2, q7, fun p hp => q8 p (by omega)⟩
      rw [q1, show n - (i + 1 - k) = n - (i - k) - 1 by omega]
/-- one tick up to the orders that begin -/
theorem ticked_R {I : mIt} {b n m nc : Nat} {s : Int → Int} (h : RR I b s) (hn : s 3 = n) (hm : s 2 = m) (hc : s 0 = nc) (hT : s 1 + 1 ≤ 60000) : RR (finI (mUp I b 1 (I b 1 + 1)) b n) b (tdS s n m nc) ∧ tdN s n nc = tkN I b n ∧ tkN I b n ≤ n ∧
    tdS s n m nc 3 = (tkN I b n : Nat) ∧ tdS s n m nc 4 = s 4 + ((n : Int) - (tkN I b n : Nat)) ∧ tdS s n m nc 1 = s 1 + 1 ∧ (∀ j : Int, j < 12 → j ≠ 1 → j ≠ 3 → j ≠ 4 → tdS s n m nc j = s j) := by
  have h7 := h.1.1.1
  have hT0 := h.1.1.2.1.1
  obtain ⟨ck, cl⟩ := clock_R h hc hT
  have e1 : tcS s nc 1 = s 1 + 1 := by rw [cl 1 (by omega), if_pos rfl]
  have e3 : tcS s nc 3 = n := by rw [cl 3 (by omega), if_neg (by omega)]; exact hn
  obtain ⟨f0, r, f1, f2, f3, f4, f5, f6, f7, f8⟩ := finish_R ck e1 e3 hT0 n (Nat.le_refl _)
  have hd0 : I b 2 = s 4 := h.2.2.2.1
  have hz6 : I b 4 = s 6 := h.2.2.2.2
  unfold tkN tdS tdN finI
  generalize hk : foL (mUp I b 1 (I b 1 + 1)) b n = k at *
  have g1 : dnS n (tcS s nc) n 0 = (r, k) := by
    rw [f1, show n - n = 0 by omega, show n - (n - k) = k by omega]; rfl
  rw [g1]
  have r1 : r 1 = s 1 + 1 := by rw [f5 1 (by omega) (by omega) (by omega)]; exact e1
  have r3 : r 3 = (k : Int) := by rw [f3]; omega
  have r4 : r 4 = s 4 + ((n : Int) - (k : Int)) := by rw [f4, cl 4 (by omega), if_neg (by omega)]
  have rl : ∀ j : Int, j < 12 → j ≠ 1 → j ≠ 3 → j ≠ 4 → r j = s j := fun j a1 a2 a3 a4 => by rw [f5 j a1 a3 a4, cl j (by omega), if_neg a2]
  have J : ∀ z : Nat, z ≠ b → z ≠ b + 9 → mUp (mUp (foM (mUp I b 1 (I b 1 + 1)) b n) (b + 9) 0 (k : Nat)) b 2 (mUp I b 1 (I b 1 + 1) b 2 + ((n : Int) - (k : Nat))) z = foM (mUp I b 1 (I b 1 + 1)) b n z := fun z a1 a2 => by
    rw [mUp_ne _ _ _ a1, mUp_ne _ _ _ a2]
  have Jb : mUp (mUp (foM (mUp I b 1 (I b 1 + 1)) b n) (b + 9) 0 (k : Nat)) b 2 (mUp I b 1 (I b 1 + 1) b 2 + ((n : Int) - (k : Nat))) b = fset (fset (I b) 1 (I b 1 + 1)) 2 (I b 2 + ((n : Int) - (k : Nat))) := by
    rw [mUp_at, mUp_ne _ _ _ (by omega), f7 b (by omega), mUp_at, fset_ne _ _ (show (2 : Int) ≠ 1 by omega)]
  have J9 : mUp (mUp (foM (mUp I b 1 (I b 1 + 1)) b n) (b + 9) 0 (k : Nat)) b 2 (mUp I b 1 (I b 1 + 1) b 2 + ((n : Int) - (k : Nat))) (b + 9) 0 = k := by
    rw [mUp_ne _ _ _ (by omega), mUp_at, fset_at]
  generalize mUp (mUp (foM (mUp I b 1 (I b 1 + 1)) b n) (b + 9) 0 (k : Nat)) b 2 (mUp I b 1 (I b 1 + 1) b 2 + ((n : Int) - (k : Nat))) = K at *
  have fb : foM (mUp I b 1 (I b 1 + 1)) b n b = fset (I b) 1 (I b 1 + 1) := by rw [f7 b (by omega), mUp_at]
  have rg : Rg (s 1 + 1) (s 1 + 1) (fun k => k) K b r := by
    have g := Rg_J (J := K) (qh := fun k => k) f2 (fun z a1 a2 _ => J z a1 a2) (fun k hk => by rw [Jb, fset_ne _ _ hk, fb]) (fun p a1 a2 => by
      have e := f2.2.2.2.2.2.2.2.2.2.2.1 p a1 a2
      rw [show phD n k p = p by unfold phD; rw [if_pos (by omega)]] at e
      show K (b + 10) p = _ ∧ K (b + 11) p = _ ∧ K (b + 12) p = _ ∧ K (b + 13) p = _ ∧ K (b + 14) p = _
      rw [J (b + 10) (by omega) (by omega), J (b + 11) (by omega) (by omega), J (b + 12) (by omega) (by omega), J (b + 13) (by omega) (by omega), J (b + 14) (by omega) (by omega)]
      exact e)
    obtain ⟨hH, hN, hM, hO, hQ, hW, hV, eH, eN, eM, eO, eC, eD, hR⟩ := g
    refine ⟨hH, hN, hM, hO, hQ, hW, hV, eH, eN, eM, eO, eC, fun p a1 a2 => ?_, hR⟩
    have q := eD p a1 a2
    have f := f6 p a1 (by omega)
    unfold orR at *
    refine ⟨?_, q.2⟩
    rcases q.1 with z | z
    · exact Or.inl z
    · exact Or.inr ⟨by omega, by omega, z.2.2⟩
  have fr := frees_R rg (n := k) (m := m) (nc := nc) r3 (by rw [rl 2 (by omega) (by omega) (by omega) (by omega)]; exact hm) (by rw [rl 0 (by omega) (by omega) (by omega) (by omega)]; exact hc)
  have fk : ∀ i : Int, i < 12 → frM r k m nc i = r i := fun i hi => frM_nei nc (fun c _ _ => by omega)
  refine ⟨⟨?_, fr.2, ?_, ?_, ?_⟩, rfl, by omega, by rw [fk 3 (by omega), r3], by rw [fk 4 (by omega), r4], by rw [fk 1 (by omega), r1], fun j a1 a2 a3 a4 => by rw [fk j a1, rl j a1 a2 a3 a4]⟩
  · rw [fk 1 (by omega), r1]; exact fr.1
  · rw [J9, fk 3 (by omega), r3]
  · rw [Jb, fset_at, fk 4 (by omega), r4, hd0]
  · rw [Jb, fset_ne _ _ (by omega), fset_ne _ _ (by omega), fk 6 (by omega), rl 6 (by omega) (by omega) (by omega) (by omega)]; exact hz6
