/-! ===== the mathematics: one call that changes ===== -/
theorem PW_sl {P : mPt} (hW : PW P) (K : mIt) (r t : Nat) (h : Int → Nat) (v : Int) : PW (slP P K r t h v) := by
  unfold slP
  split
  · exact hW
  · unfold sqP
    split
    · refine PW_up hW (fun a i h1 h2 => ?_)
      unfold mUp fset
      by_cases z : a = 0
      · subst z
        simp only [if_true]
        rw [if_neg (by omega), if_neg (by omega), if_neg h2]
      · rw [if_neg z, if_neg z, if_neg h2]
    · refine PW_up hW (fun a i h1 h2 => ?_)
      unfold mUp fset roP
      by_cases z : a = 0
      · subst z
        simp only [if_true]
        rw [if_neg (by omega), if_neg (by omega), if_neg h2, if_neg (by omega)]
      · rw [if_neg z, if_neg z, if_neg h2, if_neg (by omega)]
def FailJ (I J : mIt) : Prop := (∀ x : Nat, x < 155 → J x = I x) ∧ (J 155 4 = I 155 4 ∧ J 155 5 = I 155 5 ∧ J 155 7 = I 155 7) ∧ (∀ i : Int, 0 ≤ i → i < 153 → J 156 i = I 156 i) ∧ J 157 = I 157 ∧ J 160 = I 160 ∧ J 161 = I 161
def SuccJ (I J : mIt) (row : Int → Int) : Prop := (∀ x : Nat, x < 155 → J x = I x) ∧ (J 155 4 = chQ 0 (I 155 4) ∧ J 155 5 = I 155 5 ∧ J 155 7 = I 155 7) ∧ (∀ i : Int, 0 ≤ i → i < 153 → J 156 i = row i) ∧ (∃ old : Int → Int, (∀ i : Int, 0 ≤ i → i < 153 → old i = I 156 i) ∧ J 157 = chP 0 (I 155 4) (I 157) old) ∧ J 160 = I 160 ∧ J 161 = I 161
theorem fail_same (I : mIt) : FailJ I I := ⟨fun _ _ => rfl, ⟨rfl, rfl, rfl⟩, fun _ _ _ => rfl, rfl, rfl, rfl⟩
theorem mdB_at (I : mIt) (p : Int → Int) (q : Int) (t h row : Int → Int) : (∀ x : Nat, x < 155 → arS (mdB I p q t h) 156 row x = I x) ∧ arS (mdB I p q t h) 156 row 155 = fset (I 155) 4 q ∧ arS (mdB I p q t h) 156 row 156 = row ∧ arS (mdB I p q t h) 156 row 157 = p ∧ arS (mdB I p q t h) 156 row 160 = I 160 ∧ arS (mdB I p q t h) 156 row 161 = I 161 := by
  unfold mdB
  refine ⟨fun x hx => ?_, ?_, ?_, ?_, ?_, ?_⟩
  · rw [arS_ne _ _ (by omega), arS_ne _ _ (by omega), arS_ne _ _ (by omega), arS_ne _ _ (by omega), mUp_ne _ _ _ (by omega)]
  · rw [arS_ne _ _ (by omega), arS_ne _ _ (by omega), arS_ne _ _ (by omega), arS_ne _ _ (by omega), mUp_at]
  · rw [arS_at]
  · rw [arS_ne _ _ (by omega), arS_at]
  · rw [arS_ne _ _ (by omega), arS_ne _ _ (by omega), arS_ne _ _ (by omega), arS_ne _ _ (by omega), mUp_ne _ _ _ (by omega)]
  · rw [arS_ne _ _ (by omega), arS_ne _ _ (by omega), arS_ne _ _ (by omega), arS_ne _ _ (by omega), mUp_ne _ _ _ (by omega)]
theorem md_fail {I : mIt} {t row : Int → Int} (hr : ∀ i : Int, 0 ≤ i → i < 153 → row i = I 156 i) : FailJ I (arS (mdB I (I 157) (I 155 4) t (I 158)) 156 row) := by
  obtain ⟨a, b, c, d, e, f⟩ := mdB_at I (I 157) (I 155 4) t (I 158) row
  refine ⟨a, ?_, ?_, d, e, f⟩
  · rw [b]; exact ⟨fset_at _ _ _, fset_ne _ _ (by omega), fset_ne _ _ (by omega)⟩
  · rw [c]; exact hr
theorem md_succ {I : mIt} {t row old : Int → Int} (h5 : I 155 5 = 0) (ho : ∀ i : Int, 0 ≤ i → i < 153 → old i = I 156 i) : SuccJ I (arS (mdB I (chP (I 155 5) (I 155 4) (I 157) old) (chQ (I 155 5) (I 155 4)) t (I 158)) 156 row) row := by
  obtain ⟨a, b, c, d, e, f⟩ := mdB_at I (chP (I 155 5) (I 155 4) (I 157) old) (chQ (I 155 5) (I 155 4)) t (I 158) row
  refine ⟨a, ?_, ?_, ⟨old, ho, ?_⟩, e, f⟩
  · rw [b]; exact ⟨by rw [fset_at, h5], fset_ne _ _ (by omega), fset_ne _ _ (by omega)⟩
  · rw [c]; exact fun _ _ _ => rfl
  · rw [d, h5]
theorem cpZ_in {t f : Int → Int} {i : Int} (h0 : 0 ≤ i) (h1 : i < 153) : cpF t f i = f i := by unfold cpF; rw [if_pos ⟨h0, h1⟩]
theorem stp_change {n : Nat} {I K : mIt} {P : mPt} {m5 m6 : mD} {as : List (Nat × mV)} {r t : Nat} {h : Int → Nat} {v : Int} {row : Int → Int} (hA : RmA r t h) (hW : PW P) (hR : PR P r t h) (hL : LI (1000 * n) I r h)
    (w5 : ∀ k, WP (k + 11) m5 none (0, 0) (Rt (some (.inl v)) (lay0, slI K v, slP P K r t h v)) 0 ((0, .inr (some 0)) :: as) [] (lay0, I, P)) (hK : ∀ x : Nat, x < t ∨ t + 25 ≤ x → K x = I x) (hG : 0 ≤ v → GS (1000 * n + 1000) K t row)
    (w6 : ∀ (I1 : mIt) (P1 : mPt), PW P1 → (∀ x : Nat, 155 ≤ x → I1 x = I x) → ∃ J : mIt, (∀ k, WP (k + 11) m6 none (0, 0) (Rt (some (.inl v)) (lay0, J, P1)) 0 ((0, .inr (some 155)) :: as) [] (lay0, I1, P1)) ∧ (v < 0 → FailJ I1 J) ∧ (0 ≤ v → SuccJ I1 J row)) : lwStp m5 m6 as (LW (n + 1)) I P := by
  have ht := hA.2.1
  have hM : (1000 * ((n + 1 : Nat) : Int)) = 1000 * (n : Int) + 1000 := by omega
  have hi : ∀ x : Nat, 155 ≤ x → slI K v x = I x := fun x hx => by
    have := hK x (RmB_far ht (by omega))
    unfold slI
    split
    · exact this
    · split
      · rw [mUp_ne _ _ _ (by omega)]; exact this
      · exact this
  obtain ⟨J, w6', jf, js⟩ := w6 (slI K v) (slP P K r t h v) (PW_sl hW K r t h v) hi
  refine ⟨v, slI K v, slP P K r t h v, J, w5, w6', ?_⟩
  by_cases q : v < 0
  · have e1 : slI K v = K := by unfold slI; rw [if_pos q]
    have e2 : slP P K r t h v = P := by unfold slP; rw [if_pos q]
    obtain ⟨j1, j2, j3, j4, j5, j6⟩ := jf q
    rw [e1] at j1 j2 j3 j4 j5 j6 hi
    rw [e2]
    refine ⟨r, t, h, hA, hW, hR, ?_⟩
    rw [hM]
    refine LI_keep hA hL (by omega) (fun x h1 h2 _ _ _ => by rw [j1 x h2, hK x h1]) (by rw [j1 0 (by omega), hK 0 (RmB_far ht (by omega))]) (by rw [j1 52 (by omega), hK 52 (RmB_far ht (by omega))]) (fun i a b => by rw [j3 i a b, hi 156 (by omega)]) (by rw [j2.1, j2.2.1, j2.2.2, hi 155 (by omega)]; exact ⟨rfl, rfl, rfl⟩) (fun i _ _ => by rw [j4, hi 157 (by omega)]) (by rw [j5, hi 160 (by omega)]) (by rw [j6, hi 161 (by omega)]; exact hL.2.2.2.2.2)
  · obtain ⟨j1, j2, j3, ⟨old, jo, j4⟩, j5, j6⟩ := js (by omega)
    rw [hi 155 (by omega)] at j2
    rw [hi 155 (by omega), hi 157 (by omega)] at j4
    rw [hi 156 (by omega)] at jo
    obtain ⟨t', h', a1, a2, a3, a4⟩ := LI_push (M := 1000 * n + 1000) (v := v) (K := K) (J := J) (row := row) (old := old) hA hW hR hL (by omega) (by omega) (fun x h1 h2 _ _ _ => hK x h1) (by rw [hK 0 (RmB_far ht (by omega))]) (by rw [hK 52 (RmB_far ht (by omega))]) (hG (by omega)) j1 (by rw [j2.1, j2.2.1, j2.2.2]; exact ⟨rfl, hL.2.2.2.2.1, rfl⟩) j3 jo (fun i _ _ => by rw [j4]) (by rw [j5, hi 160 (by omega)]) (by rw [j6, hi 161 (by omega)]; exact hL.2.2.2.2.2)
    refine ⟨t, t', h', a1, a2, a3, ?_⟩
    rw [hM]; exact a4
/-- what the model's calls ask of its row -/
theorem mo_of {N : Int} {I : mIt} {b n : Nat} {s : Int → Int} (h : GS N I b s) (hN : N ≤ 1000000) (hn : s 3 = n) : (0 ≤ s 5 ∧ s 5 ≤ 1000000) ∧ (0 ≤ s 6 ∧ s 6 ≤ 1000000) ∧ (0 ≤ s 1 ∧ s 1 ≤ 50000) ∧ (0 ≤ s 10 ∧ s 10 ≤ 9) ∧ (0 ≤ s 7 ∧ s 7 ≤ 1000000) ∧ (0 ≤ s 4 ∧ s 4 ≤ 1000000) ∧ (0 ≤ s 8 ∧ s 8 ≤ 9) ∧ (0 ≤ s 9 ∧ s 9 ≤ 9) ∧ (∀ i : Int, 12 ≤ i → i < 20 → s i < 7) ∧ oOK s n ∧ vOK s ∧ (∀ i : Int, 0 ≤ i → i < n → 0 ≤ s (111 + 7 * i + 5) ∧ s (111 + 7 * i + 5) ≤ 3) ∧ (∀ i : Int, 0 ≤ i → i < n → -1 ≤ s (111 + 7 * i + 4) ∧ s (111 + 7 * i + 4) ≤ 60100) ∧ (0 ≤ s 2 ∧ s 2 ≤ 3) ∧ n ≤ 6 ∧ (3 ≤ s 0 ∧ s 0 ≤ 7) := by
  obtain ⟨⟨⟨hH, hN', hM, hO, hQ, hW, hV, eH, eN, eM, eO, eC, eD, hR⟩, hX, hz, hd, hsat⟩, hT, hC⟩ := h
  have h7 := hH.1
  have h6 := hH.2.2.2.1
  have h3 := hH.2.2.1
  have hs := hH.2.2.2.2
  have h1 := hH.2.1
  have e3 := eH.2.2.1
  unfold Ct at hC
  refine ⟨by omega, by omega, by omega, by omega, by omega, by omega, by omega, by omega, ?_, ?_, hV, ?_, ?_, h3, by omega, h7⟩
  · intro i a b
    have := (hN' (i - 12) (by omega) (by omega)).1
    rw [show 12 + (i - 12) = i by omega] at this
    omega
  · intro k hk
    have := hO k (by omega) (by omega)
    omega
  · intro i a b
    have := hO i a (by omega)
    omega
  · intro i a b
    have := (eD i a (by omega)).1
    omega
/-- the trial room, made equal to the room -/
theorem spare_G {N : Int} {I : mIt} {r t : Nat} {h : Int → Nat} (hA : RmA r t h) (hL : LI N I r h) : GS N (rbI I t r) t (I 156) ∧ (∀ x : Nat, x < t ∨ t + 25 ≤ x → rbI I t r x = I x) := by
  have d := RmB_d hA.1 hA.2.1 hA.2.2.1
  have v := VE_rb I (t := t) (r := r) d.symm
  exact ⟨GS_VE v.1 hL.1, v.2⟩
