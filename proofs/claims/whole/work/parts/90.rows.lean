/-! ROWS AND ENTRIES: one behind another -/
section RX
variable {np : Nat} {T T' : Nat → Nat → Nat} {A B C A' B' C' : Nat → Int32}
theorem RW_mono : ∀ f g dp s t a b, f ≤ g → RW np T A B C f dp s t a b → RW np T A B C g dp s t a b
  | 0, 0, dp, s, t, a, b, _, R => R
  | 0, g + 1, dp, s, t, a, b, _, R => .inl R
  | f + 1, 0, dp, s, t, a, b, h, R => absurd h (Nat.not_succ_le_zero f)
  | f + 1, g + 1, dp, s, t, a, b, h, R => by
    have hfg : f ≤ g := by omega
    rcases R with ⟨h1, h2⟩ | ⟨q1, q2, q3, ⟨q4, q5, q6, q7, q8, q9⟩ | ⟨q4, q5, q6, q7, c, c1, c2, c3, c4, c5, c6, c7, c8⟩⟩
    · exact .inl ⟨h1, h2⟩
    · exact .inr ⟨q1, q2, q3, .inl ⟨q4, q5, q6, q7, q8, RW_mono f g _ _ _ _ _ hfg q9⟩⟩
    · exact .inr ⟨q1, q2, q3, .inr ⟨q4, q5, q6, q7, c, c1, c2, c3, c4, c5, c6, RW_mono f g _ _ _ _ _ hfg c7, RW_mono f g _ _ _ _ _ hfg c8⟩⟩
theorem RW_app : ∀ f g dp s t u a b c, RW np T A B C f dp s t a b → RW np T A B C g dp t u b c → RW np T A B C (f + g) dp s u a c
  | 0, g, dp, s, t, u, a, b, c, R, R2 => by
    obtain ⟨rfl, rfl⟩ := R
    rw [Nat.zero_add]
    exact R2
  | f + 1, g, dp, s, t, u, a, b, c, R, R2 => by
    have l2 := RW_le _ _ _ _ _ _ R2
    rcases R with ⟨rfl, rfl⟩ | ⟨q1, q2, q3, ⟨q4, q5, q6, q7, q8, q9⟩ | ⟨q4, q5, q6, q7, e, c1, c2, c3, c4, c5, c6, c7, c8⟩⟩
    · exact RW_mono g _ _ _ _ _ _ (by omega) R2
    · have r := RW_app f g dp _ t u _ b c q9 R2
      rw [show f + 1 + g = (f + g) + 1 by omega]
      exact .inr ⟨by omega, q2, q3, .inl ⟨q4, q5, q6, q7, q8, r⟩⟩
    · have r := RW_app f g dp _ t u _ b c c8 R2
      rw [show f + 1 + g = (f + g) + 1 by omega]
      exact .inr ⟨by omega, q2, q3, .inr ⟨q4, q5, q6, q7, e, c1, c2, c3, c4, c5, by omega, RW_mono f _ _ _ _ _ _ (by omega) c7, r⟩⟩
theorem RW_congr : ∀ f dp s t a b, RW np T A B C f dp s t a b → (∀ i k, s ≤ i → i < t → T' i k = T i k) → (∀ j, a ≤ j → j < b → A' j = A j ∧ B' j = B j ∧ C' j = C j) → RW np T' A' B' C' f dp s t a b
  | 0, dp, s, t, a, b, R, _, _ => R
  | f + 1, dp, s, t, a, b, R, hT, hA => by
    rcases R with ⟨h1, h2⟩ | ⟨q1, q2, q3, ⟨q4, q5, q6, q7, q8, q9⟩ | ⟨q4, q5, q6, q7, e, c1, c2, c3, c4, c5, c6, c7, c8⟩⟩
    · exact .inl ⟨h1, h2⟩
    · have l9 := RW_le _ _ _ _ _ _ q9
      obtain ⟨a1, a2, a3⟩ := hA a (Nat.le_refl _) (by omega)
      have r := RW_congr f dp (s + 1) t (a + 1) b q9 (fun i k h1 h2 => hT i k (by omega) h2) (fun j h1 h2 => hA j (by omega) h2)
      refine .inr ⟨q1, q2, ?_, .inl ?_⟩
      · rw [hT s 0 (Nat.le_refl _) q1, a1, q3]
      · rw [hT s 0 (Nat.le_refl _) q1, hT s 1 (Nat.le_refl _) q1, hT s 2 (Nat.le_refl _) q1, hT s 3 (Nat.le_refl _) q1, a2, a3]
        exact ⟨q4, q5, q6, q7, q8, r⟩
    · have l7 := RW_le _ _ _ _ _ _ c7
      have l8 := RW_le _ _ _ _ _ _ c8
      obtain ⟨a1, a2, a3⟩ := hA a (Nat.le_refl _) (by omega)
      obtain ⟨b1, b2, b3⟩ := hA e (by omega) (by omega)
      have r7 := RW_congr f (dp + 1) (s + 1) (T s 3) (a + 1) e c7 (fun i k h1 h2 => hT i k (by omega) (by omega)) (fun j h1 h2 => hA j (by omega) (by omega))
      have r8 := RW_congr f dp (T s 3) t (e + 1) b c8 (fun i k h1 h2 => hT i k (by omega) h2) (fun j h1 h2 => hA j (by omega) h2)
      refine .inr ⟨q1, q2, ?_, .inr ?_⟩
      · rw [hT s 0 (Nat.le_refl _) q1, a1, q3]
      · rw [hT s 0 (Nat.le_refl _) q1, hT s 1 (Nat.le_refl _) q1, hT s 3 (Nat.le_refl _) q1, a2, a3]
        exact ⟨q4, q5, q6, q7, e, c1, c2, by rw [b1, c3], by rw [b3, c4], c5, c6, r7, r8⟩
end RX
