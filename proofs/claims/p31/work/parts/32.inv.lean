/-! the invariant is one for the law -/
section ZI
variable {μ ν : zM} {T I o z o' z' : Nat}
theorem ok_act (h : zV μ T I) (e : eqv T I μ ν) {T2 I2 k t i : Nat} {v b : Int32} (hk : k ≤ 15) (h14 : k ≠ 14) (ht : t ≤ T) (hi : i ≤ I) : okP μ o z T I (a_act μ (μ 1) o z T I T2 I2 k t i v b) (a_act ν (ν 1) o' z' T I T2 I2 k t i v b) := by
  have hcs : k = 0 ∨ k = 1 ∨ k = 2 ∨ k = 3 ∨ k = 4 ∨ k = 5 ∨ k = 6 ∨ k = 7 ∨ k = 8 ∨ k = 9 ∨ k = 10 ∨ k = 11 ∨ k = 12 ∨ k = 13 ∨ k = 15 := by omega
  rcases hcs with rfl | rfl | rfl | rfl | rfl | rfl | rfl | rfl | rfl | rfl | rfl | rfl | rfl | rfl | rfl
  · exact ok_begin h e _
  · show okP μ o z T I (if T = 0 then _ else _) (if T = 0 then _ else _)
    by_cases c2 : T = 0
    · rw [if_pos c2, if_pos c2]
      exact okE (by decide)
    · rw [if_neg c2, if_neg c2]
      exact ok_addItem h e (show T - 1 < T by omega) _ _ _ _
  · show okP μ o z T I (if T = 0 then _ else _) (if T = 0 then _ else _)
    by_cases c2 : T = 0
    · rw [if_pos c2, if_pos c2]
      exact okE (by decide)
    · rw [if_neg c2, if_neg c2]
      exact ok_addItem h e (show T - 1 < T by omega) _ _ _ _
  · exact ok_pass h e _
  · show okP μ o z T I (if t = T then _ else _) (if t = T then _ else _)
    by_cases c2 : t = T
    · rw [if_pos c2, if_pos c2]
      exact okE (by decide)
    · rw [if_neg c2, if_neg c2]
      exact ok_end h e (show t < T by omega)
  · show okP μ o z T I (if i = I then _ else _) (if i = I then _ else _)
    by_cases c2 : i = I
    · rw [if_pos c2, if_pos c2]
      exact okE (by decide)
    · rw [if_neg c2, if_neg c2]
      exact ok_inspect h e (show i < I by omega) _
  · show okP μ o z T I (if i = I then _ else _) (if i = I then _ else _)
    by_cases c2 : i = I
    · rw [if_pos c2, if_pos c2]
      by_cases c3 : ((b >>> ((20 : Int32) &&& 31)) &&& 1) = 0
      · rw [if_pos c3, if_pos c3]
        exact okE (by decide)
      · rw [if_neg c3, if_neg c3]
        exact okE (by decide)
    · rw [if_neg c2, if_neg c2]
      by_cases c3 : ((b >>> ((20 : Int32) &&& 31)) &&& 1) = 0
      · rw [if_pos c3, if_pos c3]
        exact ok_claim h e (show i < I by omega) _
      · rw [if_neg c3, if_neg c3]
        exact ok_claim h e (show i < I by omega) _
  · show okP μ o z T I (if i = I then _ else _) (if i = I then _ else _)
    by_cases c2 : i = I
    · rw [if_pos c2, if_pos c2]
      by_cases c3 : ((b >>> ((20 : Int32) &&& 31)) &&& 1) = 0
      · rw [if_pos c3, if_pos c3]
        exact okE (by decide)
      · rw [if_neg c3, if_neg c3]
        exact okE (by decide)
    · rw [if_neg c2, if_neg c2]
      by_cases c3 : ((b >>> ((20 : Int32) &&& 31)) &&& 1) = 0
      · rw [if_pos c3, if_pos c3]
        exact ok_claim h e (show i < I by omega) _
      · rw [if_neg c3, if_neg c3]
        exact ok_claim h e (show i < I by omega) _
  · show okP μ o z T I (if t = T then _ else _) (if t = T then _ else _)
    by_cases c2 : t = T
    · rw [if_pos c2, if_pos c2]
      exact okE (by decide)
    · rw [if_neg c2, if_neg c2]
      exact ok_claimRent h e (show t < T by omega) _
  · show okP μ o z T I (if t = T then _ else _) (if t = T then _ else _)
    by_cases c2 : t = T
    · rw [if_pos c2, if_pos c2]
      exact okE (by decide)
    · rw [if_neg c2, if_neg c2]
      exact ok_put h e (show t < T by omega)
  · show okP μ o z T I (if i = I then _ else _) (if i = I then _ else _)
    by_cases c2 : i = I
    · rw [if_pos c2, if_pos c2]
      by_cases c3 : (b &&& 3) = 0
      · rw [if_pos c3, if_pos c3]
        exact okE (by decide)
      · rw [if_neg c3, if_neg c3]
        exact okE (by decide)
    · rw [if_neg c2, if_neg c2]
      by_cases c3 : (b &&& 3) = 0
      · rw [if_pos c3, if_pos c3]
        exact ok_answer h e (show i < I by omega) _
      · rw [if_neg c3, if_neg c3]
        exact ok_answer h e (show i < I by omega) _
  · show okP μ o z T I (if i = I then _ else _) (if i = I then _ else _)
    by_cases c2 : i = I
    · rw [if_pos c2, if_pos c2]
      by_cases c3 : (b &&& 3) = 0
      · rw [if_pos c3, if_pos c3]
        exact okE (by decide)
      · rw [if_neg c3, if_neg c3]
        exact okE (by decide)
    · rw [if_neg c2, if_neg c2]
      by_cases c3 : (b &&& 3) = 0
      · rw [if_pos c3, if_pos c3]
        exact ok_answer h e (show i < I by omega) _
      · rw [if_neg c3, if_neg c3]
        exact ok_answer h e (show i < I by omega) _
  · show okP μ o z T I (if i = I then _ else _) (if i = I then _ else _)
    by_cases c2 : i = I
    · rw [if_pos c2, if_pos c2]
      exact okE (by decide)
    · rw [if_neg c2, if_neg c2]
      exact ok_setEvidence h e (show i < I by omega) _ _
  · show okP μ o z T I (if (b &&& 1) = 0 then _ else _) (if (b &&& 1) = 0 then _ else _)
    by_cases c2 : (b &&& 1) = 0
    · rw [if_pos c2, if_pos c2]
      exact ok_setFee h e _
    · rw [if_neg c2, if_neg c2]
      by_cases c3 : ((b >>> ((1 : Int32) &&& 31)) &&& 3) = 0
      · rw [if_pos c3, if_pos c3]
        exact ok_setRate h e _
      · rw [if_neg c3, if_neg c3]
        exact ok_setRate h e _
  · show okP μ o z T I (if t = T then _ else _) (if t = T then _ else _)
    by_cases c2 : t = T
    · rw [if_pos c2, if_pos c2]
      exact okE (by decide)
    · rw [if_neg c2, if_neg c2]
      exact ok_close h e (show t < T by omega)
theorem zV_uniq {M : zM} {T' I' : Nat} (h : zV M T I) (h2 : zV M T' I') : T = T' ∧ I = I' := by
  obtain ⟨a1, a2, a3, a4, _⟩ := zV_hd h
  obtain ⟨b1, b2, b3, b4, _⟩ := zV_hd h2
  exact ⟨(nI_eq (by omega) (by omega)).mp (a1.symm.trans b1), (nI_eq (by omega) (by omega)).mp (a2.symm.trans b2)⟩
end ZI
theorem zV_inv : zInv zV := by
  refine ⟨fun h e => zV_cg h e, fun h => zV_hd h, fun h z => ⟨zV_A h z, zV_B h, zV_C h z⟩, ?_, ?_, zV_ini⟩
  · intro μ T I o z T2 I2 k t i v b h ho hz hk h14 ht hi
    rcases ok_act (o := o) (z := z) (o' := o) (z' := z) (T2 := T2) (I2 := I2) (v := v) (b := b) h eqv.rf hk h14 ht hi with q | ⟨q1, q2, _, T', I', q3, _⟩
    · exact Or.inl ⟨q.1, q.2.1⟩
    · exact Or.inr ⟨q1, q2, T', I', q3⟩
  · intro μ ν T I o z o' z' T2 I2 k t i v b h e hk h14 ht hi
    rcases ok_act (o := o) (z := z) (o' := o') (z' := z') (T2 := T2) (I2 := I2) (v := v) (b := b) h e hk h14 ht hi with ⟨q1, q2, q3⟩ | ⟨q1, _, q3, T', I', q4, q5⟩
    · exact ⟨q3, fun h0 => absurd q1 (Int32.not_lt.mpr h0)⟩
    · refine ⟨q3, fun _ T1 I1 hv => ?_⟩
      obtain ⟨rfl, rfl⟩ := zV_uniq q4 hv
      exact q5
