/-! ===== the mathematics: what holds between two calls ===== -/
def RmB (b : Nat) : Prop := b = 1 ∨ b = 26 ∨ b = 55 ∨ b = 80 ∨ b = 105 ∨ b = 130
theorem RmB_d {a b : Nat} (ha : RmB a) (hb : RmB b) (h : a ≠ b) : a + 25 ≤ b ∨ b + 25 ≤ a := by unfold RmB at *; omega
theorem RmB_far {b x : Nat} (hb : RmB b) (h : x = 0 ∨ (51 ≤ x ∧ x ≤ 54) ∨ 155 ≤ x) : x < b ∨ b + 25 ≤ x := by unfold RmB at *; omega
def RmA (r t : Nat) (h : Int → Nat) : Prop := RmB r ∧ RmB t ∧ r ≠ t ∧ (∀ i : Int, 0 ≤ i → i < 4 → RmB (h i) ∧ h i ≠ r ∧ h i ≠ t) ∧ (∀ i j : Int, 0 ≤ i → i < 4 → 0 ≤ j → j < 4 → i ≠ j → h i ≠ h j)
def PW (P : mPt) : Prop := isTx P ∧ isMd P ∧ P 0 2 = some 51 ∧ P 0 4 = some 52 ∧ ∀ b : Nat, RmB b → isRm P b
def PR (P : mPt) (r t : Nat) (h : Int → Nat) : Prop := P 0 0 = some r ∧ P 0 1 = some t ∧ ∀ i : Int, 0 ≤ i → i < 4 → P 51 i = some (h i)
def rowH (I : mIt) (i : Int) : Int → Int := fun k => I 157 (153 * i + k)
def Hs (N q : Int) (I : mIt) (h : Int → Nat) : Prop := ∀ i : Int, 0 ≤ i → i < q → GS N I (h i) (rowH I i)
def TX (I : mIt) : Prop := (0 ≤ I 52 1 ∧ I 52 1 ≤ 80) ∧ I 155 7 = I 52 1 ∧ (∀ i : Int, 0 ≤ i → i < I 52 1 → I 160 i = I 53 i) ∧ (∀ i : Int, 0 ≤ i → i < 80 → (0 ≤ I 53 i ∧ I 53 i ≤ 126) ∧ (0 ≤ I 160 i ∧ I 160 i ≤ 126))
def LI (N : Int) (I : mIt) (r : Nat) (h : Int → Nat) : Prop := GS N I r (I 156) ∧ (0 ≤ I 0 3 ∧ I 0 3 ≤ 4 ∧ I 155 4 = I 0 3) ∧ Hs N (I 0 3) I h ∧ TX I ∧ I 155 5 = 0 ∧ lOK (I 161)
def LW (n : Nat) (I : mIt) (P : mPt) : Prop := ∃ (r t : Nat) (h : Int → Nat), RmA r t h ∧ PW P ∧ PR P r t h ∧ LI (1000 * n) I r h
theorem cn_of {P : mPt} {r t : Nat} {h : Int → Nat} (hA : RmA r t h) (hW : PW P) (hR : PR P r t h) : isCn P r t h :=
  ⟨⟨hR.1, hR.2.1, hW.2.2.1, hW.2.2.2.1⟩, hR.2.2, hW.2.2.2.2 r hA.1, hW.2.2.2.2 t hA.2.1, fun i a b => hW.2.2.2.2 _ (hA.2.2.2.1 i a b).1, RmB_d hA.1 hA.2.1 hA.2.2.1⟩
/-- the references that settle and undo write -/
theorem PW_up {P P' : mPt} (hW : PW P) (h : ∀ (a : Nat) (i : Int), ¬ (a = 0 ∧ (i = 0 ∨ i = 1)) → a ≠ 51 → P' a i = P a i) : PW P' := by
  obtain ⟨hT, hM, h2, h4, hR⟩ := hW
  unfold isTx at hT
  unfold isMd at hM
  refine ⟨?_, ?_, ?_, ?_, ?_⟩
  · unfold isTx
    rw [h 52 0 (by omega) (by omega), h 52 2 (by omega) (by omega)]; exact hT
  · unfold isMd
    rw [h 155 0 (by omega) (by omega), h 155 1 (by omega) (by omega), h 155 2 (by omega) (by omega), h 155 3 (by omega) (by omega), h 155 6 (by omega) (by omega), h 155 8 (by omega) (by omega), h 155 12 (by omega) (by omega)]; exact hM
  · rw [h 0 2 (by omega) (by omega)]; exact h2
  · rw [h 0 4 (by omega) (by omega)]; exact h4
  · intro b hb
    have q := hR b hb
    have e : ∀ (x : Nat) (i : Int), x < 25 → P' (b + x) i = P (b + x) i := fun x i hx => h _ _ (by unfold RmB at hb; omega) (by unfold RmB at hb; omega)
    have e0 : ∀ i : Int, P' b i = P b i := fun i => e 0 i (by omega)
    unfold isRm isNm isVs isOr at *
    rw [e0 7, e0 8, e0 9, e0 10, e0 11, e 2 0 (by omega), e 2 1 (by omega), e 5 0 (by omega), e 5 1 (by omega), e 5 2 (by omega), e 9 1 (by omega), e 9 2 (by omega), e 9 3 (by omega), e 9 4 (by omega), e 9 5 (by omega), e 15 0 (by omega), e 15 1 (by omega), e 15 2 (by omega), e 16 0 (by omega), e 16 1 (by omega), e 19 0 (by omega), e 19 1 (by omega), e 22 0 (by omega), e 22 1 (by omega)]
    exact q
theorem Hs_J {N M q : Int} {I J : mIt} {h g : Int → Nat} (hs : Hs N q I h) (hNM : N ≤ M) (hJ : ∀ i : Int, 0 ≤ i → i < q → ∀ x : Nat, h i ≤ x → x < h i + 25 → J x = I x) (hp : ∀ i k : Int, 0 ≤ i → i < q → 0 ≤ k → k < 153 → J 157 (153 * i + k) = I 157 (153 * i + k)) : Hs M q J h := by
  intro i a b
  refine GS_row (GS_VE (VE_same (fun x h1 h2 => hJ i a b x h1 h2)) (GS_le (hs i a b) hNM)) (fun k k0 k1 => hp i k a b k0 k1)
/-- a call that changes nothing that counts -/
theorem LI_keep {N M : Int} {I J : mIt} {r t : Nat} {h : Int → Nat} (hA : RmA r t h) (hL : LI N I r h) (hNM : N ≤ M) (hJ : ∀ x : Nat, (x < t ∨ t + 25 ≤ x) → x < 155 → x ≠ 54 → x ≠ 0 → x ≠ 52 → J x = I x) (h03 : J 0 3 = I 0 3) (h521 : J 52 1 = I 52 1)
    (h156 : ∀ i : Int, 0 ≤ i → i < 153 → J 156 i = I 156 i) (h155 : J 155 4 = I 155 4 ∧ J 155 5 = I 155 5 ∧ J 155 7 = I 155 7) (h157 : ∀ i : Int, 0 ≤ i → i < 612 → J 157 i = I 157 i) (h160 : J 160 = I 160) (h161 : lOK (J 161)) : LI M J r h := by
  obtain ⟨g, q, hs, tx, z5, lk⟩ := hL
  have hr := hA.1
  have ht := hA.2.1
  have rt := RmB_d hr ht hA.2.2.1
  refine ⟨?_, ?_, ?_, ?_, ?_, h161⟩
  · refine GS_row (GS_VE (VE_same (fun x h1 h2 => hJ x ?_ ?_ ?_ ?_ ?_)) (GS_le g hNM)) h156 <;> (unfold RmB at hr; omega)
  · rw [h03, h155.1]; exact q
  · rw [h03]
    refine Hs_J (g := h) hs hNM (fun i a b x h1 h2 => hJ x ?_ ?_ ?_ ?_ ?_) (fun i k a b k0 k1 => h157 _ (by omega) (by omega))
    all_goals (have := hA.2.2.2.1 i a (by omega); have d := RmB_d this.1 ht this.2.2; have b' := this.1; unfold RmB at b'; omega)
  · unfold TX at *
    rw [h521, h155.2.2, h160, hJ 53 (RmB_far ht (by omega)) (by omega) (by omega) (by omega) (by omega)]; exact tx
  · rw [h155.2.1]; exact z5
/-- a call that changes: the trial becomes the room -/
theorem LI_push {N M : Int} {I K J : mIt} {P : mPt} {r t : Nat} {h : Int → Nat} {v : Int} {row old : Int → Int} (hA : RmA r t h) (hW : PW P) (hR : PR P r t h) (hL : LI N I r h) (hNM : N ≤ M) (v0 : 0 ≤ v)
    (hK : ∀ x : Nat, (x < t ∨ t + 25 ≤ x) → x < 155 → x ≠ 54 → x ≠ 0 → x ≠ 52 → K x = I x) (k03 : K 0 3 = I 0 3) (k521 : K 52 1 = I 52 1) (hG : GS M K t row)
    (hJ : ∀ x : Nat, x < 155 → J x = slI K v x) (j155 : J 155 4 = chQ 0 (I 155 4) ∧ J 155 5 = 0 ∧ J 155 7 = I 155 7) (j156 : ∀ i : Int, 0 ≤ i → i < 153 → J 156 i = row i) (ho : ∀ i : Int, 0 ≤ i → i < 153 → old i = I 156 i) (j157 : ∀ i : Int, 0 ≤ i → i < 612 → J 157 i = chP 0 (I 155 4) (I 157) old i) (j160 : J 160 = I 160) (j161 : lOK (J 161)) :
    ∃ (t' : Nat) (h' : Int → Nat), RmA t t' h' ∧ PW (slP P K r t h v) ∧ PR (slP P K r t h v) t t' h' ∧ LI M J t h' := by
  obtain ⟨g, ⟨q0, q4, qe⟩, hs, tx, z5, lk⟩ := hL
  obtain ⟨hr, ht, hrt, hh, hhh⟩ := hA
  have rt := RmB_d hr ht hrt
  have J0 : ∀ x : Nat, x < 155 → x ≠ 0 → J x = K x := fun x h1 h2 => by
    rw [hJ x h1]; unfold slI; split
    · rfl
    · split
      · rw [mUp_ne _ _ _ h2]
      · rfl
  have J03 : J 0 3 = if I 0 3 < 4 then I 0 3 + 1 else I 0 3 := by
    rw [hJ 0 (by omega)]; unfold slI; rw [if_neg (by omega), k03]; split
    · rw [mUp_at, fset_at]
    · exact k03
  -- rooms that stay
  have keep : ∀ {a : Nat} {s : Int → Int}, RmB a → a ≠ t → GS N I a s → GS M J a s := fun {a s} ha hat gs => by
    refine GS_VE (VE_same (fun x h1 h2 => ?_)) (GS_le gs hNM)
    have d := RmB_d ha ht hat
    have ha' := ha
    unfold RmB at ha'
    rw [J0 x (by omega) (by omega), hK x (by omega) (by omega) (by omega) (by omega) (by omega)]
  have gt : GS M J t (J 156) := by
    refine GS_row (GS_VE (VE_same (fun x h1 h2 => ?_)) hG) j156
    have ht' := ht
    unfold RmB at ht'
    exact J0 x (by omega) (by omega)
  have gr : GS M J r old := GS_row (keep hr hrt g) ho
  have txJ : TX J := by
    unfold TX at *
    have e53 : J 53 = I 53 := by rw [J0 53 (by omega) (by omega), hK 53 (RmB_far ht (by omega)) (by omega) (by omega) (by omega) (by omega)]
    have e52 : J 52 1 = I 52 1 := by rw [J0 52 (by omega) (by omega)]; exact k521
    rw [e52, j155.2.2, j160, e53]; exact tx
  have sP : slP P K r t h v = sqP P (I 0 3) r t h := by unfold slP; rw [if_neg (by omega), k03]
  rw [sP]
  rw [qe] at j155 j157
  by_cases q : I 0 3 < 4
  · -- room for one more
    have hq := hh (I 0 3) q0 q
    have eP : sqP P (I 0 3) r t h = mUp (mUp (mUp P 51 (I 0 3) (some r)) 0 0 (some t)) 0 1 (some (h (I 0 3))) := by unfold sqP; rw [if_pos q]
    refine ⟨h (I 0 3), fun i => if i = I 0 3 then r else h i, ⟨ht, hq.1, Ne.symm hq.2.2, fun i a b => ?_, fun i j a b c d e => ?_⟩, ?_, ⟨?_, ?_, fun i a b => ?_⟩, gt, ?_, ?_, txJ, j155.2.1, j161⟩
    · simp only
      by_cases z : i = I 0 3
      · rw [if_pos z]; exact ⟨hr, hrt, Ne.symm hq.2.1⟩
      · rw [if_neg z]; exact ⟨(hh i a b).1, (hh i a b).2.2, hhh i (I 0 3) a b q0 q z⟩
    · simp only
      by_cases z : i = I 0 3
      · rw [if_pos z, if_neg (by omega)]; exact Ne.symm (hh j c d).2.1
      · rw [if_neg z]
        by_cases y : j = I 0 3
        · rw [if_pos y]; exact (hh i a b).2.1
        · rw [if_neg y]; exact hhh i j a b c d e
    · rw [eP]
      refine PW_up hW (fun a i h1 h2 => ?_)
      unfold mUp fset
      by_cases z : a = 0
      · subst z
        simp only [if_true]
        rw [if_neg (by omega), if_neg (by omega), if_neg h2]
      · rw [if_neg z, if_neg z, if_neg h2]
    · rw [eP]; unfold mUp fset; simp
    · rw [eP]; unfold mUp fset; simp
    · rw [eP]
      unfold mUp fset
      simp only
      rw [if_neg (by omega), if_neg (by omega), if_pos trivial]
      by_cases z : i = I 0 3
      · rw [if_pos z, if_pos z]
      · rw [if_neg z, if_neg z]; exact hR.2.2 i a b
    · rw [J03, if_pos q, j155.1]
      unfold chQ
      rw [if_pos rfl, if_neg (by omega)]
      omega
    · rw [J03, if_pos q]
      intro i a b
      simp only
      by_cases z : i = I 0 3
      · rw [if_pos z, z]
        refine GS_row gr (fun k k0 k1 => ?_)
        show J 157 (153 * I 0 3 + k) = _
        rw [j157 _ (by omega) (by omega)]
        unfold chP inP
        rw [if_pos rfl, if_neg (by omega)]
        rw [if_pos (by omega), show 153 * I 0 3 + k - 153 * I 0 3 = k by omega]
      · rw [if_neg z]
        refine GS_row (keep (hh i a (by omega)).1 (hh i a (by omega)).2.2 (hs i a (by omega))) (fun k k0 k1 => ?_)
        show J 157 (153 * i + k) = I 157 (153 * i + k)
        rw [j157 _ (by omega) (by omega)]
        unfold chP inP
        rw [if_pos rfl, if_neg (by omega)]
        rw [if_neg (by omega)]
  · -- the oldest goes
    have e4 : I 0 3 = 4 := by omega
    have h0 := hh 0 (by omega) (by omega)
    have eP : sqP P (I 0 3) r t h = mUp (mUp (mUp (roP P h 3) 51 3 (some r)) 0 0 (some t)) 0 1 (some (h 0)) := by unfold sqP; rw [if_neg q]
    refine ⟨h 0, fun i => if i = 3 then r else h (i + 1), ⟨ht, h0.1, Ne.symm h0.2.2, fun i a b => ?_, fun i j a b c d e => ?_⟩, ?_, ⟨?_, ?_, fun i a b => ?_⟩, gt, ?_, ?_, txJ, j155.2.1, j161⟩
    · simp only
      by_cases z : i = 3
      · rw [if_pos z]; exact ⟨hr, hrt, Ne.symm h0.2.1⟩
      · rw [if_neg z]; exact ⟨(hh (i + 1) (by omega) (by omega)).1, (hh (i + 1) (by omega) (by omega)).2.2, hhh (i + 1) 0 (by omega) (by omega) (by omega) (by omega) (by omega)⟩
    · simp only
      by_cases z : i = 3
      · rw [if_pos z, if_neg (by omega)]; exact Ne.symm (hh (j + 1) (by omega) (by omega)).2.1
      · rw [if_neg z]
        by_cases y : j = 3
        · rw [if_pos y]; exact (hh (i + 1) (by omega) (by omega)).2.1
        · rw [if_neg y]; exact hhh (i + 1) (j + 1) (by omega) (by omega) (by omega) (by omega) (by omega)
    · rw [eP]
      refine PW_up hW (fun a i h1 h2 => ?_)
      unfold mUp fset roP
      by_cases z : a = 0
      · subst z
        simp only [if_true]
        rw [if_neg (by omega), if_neg (by omega), if_neg h2, if_neg (by omega)]
      · rw [if_neg z, if_neg z, if_neg h2, if_neg (by omega)]
    · rw [eP]; unfold mUp fset; simp
    · rw [eP]; unfold mUp fset; simp
    · rw [eP]
      unfold mUp fset
      simp only
      rw [if_neg (by omega), if_neg (by omega), if_pos trivial]
      by_cases z : i = 3
      · rw [if_pos z, if_pos z]
      · rw [if_neg z, if_neg z]
        unfold roP
        rw [if_pos ⟨rfl, a, by omega⟩]
    · rw [J03, if_neg q, j155.1]
      unfold chQ
      rw [if_pos rfl, if_pos e4]
      omega
    · rw [J03, if_neg q]
      intro i a b
      simp only
      by_cases z : i = 3
      · rw [if_pos z, z]
        refine GS_row gr (fun k k0 k1 => ?_)
        show J 157 (153 * 3 + k) = _
        rw [j157 _ (by omega) (by omega)]
        unfold chP inP
        rw [if_pos rfl, if_pos e4]
        rw [if_pos (by omega), show 153 * 3 + k - 153 * 3 = k by omega]
      · rw [if_neg z]
        refine GS_row (keep (hh (i + 1) (by omega) (by omega)).1 (hh (i + 1) (by omega) (by omega)).2.2 (hs (i + 1) (by omega) (by omega))) (fun k k0 k1 => ?_)
        show J 157 (153 * i + k) = I 157 (153 * (i + 1) + k)
        rw [j157 _ (by omega) (by omega)]
        unfold chP inP shP
        rw [if_pos rfl, if_pos e4]
        rw [if_neg (by omega), if_pos (by omega), show 153 * i + k + 153 = 153 * (i + 1) + k by omega]
