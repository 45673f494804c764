/-! ===== small methods ===== -/
theorem cnt_cases (a : Int32) : a = 0 ∨ a = 1 ∨ a = 2 ∨ a = 3 ∨ a = 4 ∨ a = 5 ∨ a = 6 ∨ a = 7 ∨ a = 8 ∨ a = 9 ∨ a = 10 ∨ a = 11 ∨ a = 12 ∨ (a < 0 ∨ 12 < a) := by
  by_cases h : a < 0 ∨ 12 < a
  · exact Or.inr (Or.inr (Or.inr (Or.inr (Or.inr (Or.inr (Or.inr (Or.inr (Or.inr (Or.inr (Or.inr (Or.inr (Or.inr (h)))))))))))))
  · have h1 : 0 ≤ a.toInt := by
      have := fun h2 => h (Or.inl (i_lt.mpr h2))
      exact Int.not_lt.mp this
    have h2 : a.toInt ≤ 12 := by
      have := fun h2 => h (Or.inr (i_lt.mpr h2))
      exact Int.not_lt.mp this
    rcases (show a.toInt = 0 ∨ a.toInt = 1 ∨ a.toInt = 2 ∨ a.toInt = 3 ∨ a.toInt = 4 ∨ a.toInt = 5 ∨ a.toInt = 6 ∨ a.toInt = 7 ∨ a.toInt = 8 ∨ a.toInt = 9 ∨ a.toInt = 10 ∨ a.toInt = 11 ∨ a.toInt = 12 by omega) with h | h | h | h | h | h | h | h | h | h | h | h | h
    · exact Or.inl (i_eq (h.trans (by decide)))
    · exact Or.inr (Or.inl (i_eq (h.trans (by decide))))
    · exact Or.inr (Or.inr (Or.inl (i_eq (h.trans (by decide)))))
    · exact Or.inr (Or.inr (Or.inr (Or.inl (i_eq (h.trans (by decide))))))
    · exact Or.inr (Or.inr (Or.inr (Or.inr (Or.inl (i_eq (h.trans (by decide)))))))
    · exact Or.inr (Or.inr (Or.inr (Or.inr (Or.inr (Or.inl (i_eq (h.trans (by decide))))))))
    · exact Or.inr (Or.inr (Or.inr (Or.inr (Or.inr (Or.inr (Or.inl (i_eq (h.trans (by decide)))))))))
    · exact Or.inr (Or.inr (Or.inr (Or.inr (Or.inr (Or.inr (Or.inr (Or.inl (i_eq (h.trans (by decide))))))))))
    · exact Or.inr (Or.inr (Or.inr (Or.inr (Or.inr (Or.inr (Or.inr (Or.inr (Or.inl (i_eq (h.trans (by decide)))))))))))
    · exact Or.inr (Or.inr (Or.inr (Or.inr (Or.inr (Or.inr (Or.inr (Or.inr (Or.inr (Or.inl (i_eq (h.trans (by decide))))))))))))
    · exact Or.inr (Or.inr (Or.inr (Or.inr (Or.inr (Or.inr (Or.inr (Or.inr (Or.inr (Or.inr (Or.inl (i_eq (h.trans (by decide)))))))))))))
    · exact Or.inr (Or.inr (Or.inr (Or.inr (Or.inr (Or.inr (Or.inr (Or.inr (Or.inr (Or.inr (Or.inr (Or.inl (i_eq (h.trans (by decide))))))))))))))
    · exact Or.inr (Or.inr (Or.inr (Or.inr (Or.inr (Or.inr (Or.inr (Or.inr (Or.inr (Or.inr (Or.inr (Or.inr (Or.inl (i_eq (h.trans (by decide)))))))))))))))
theorem sm_count : St_count Rel := fun S V S' V' L' a1 h => by
  obtain ⟨⟨l, hl, e9, e9', -⟩, -, ⟨r0, r1, r2⟩, ⟨hh, t, ru, ⟨-, -, -, ⟨c0, c1, c2, c3, c4, c5, c6⟩, -, -, ⟨d0, d1, d2, d3, d4, d5, d6⟩, -, -⟩, ⟨n, le, -, -, ⟨c7, -⟩, d7, -⟩, -⟩, ⟨on, of, -, ⟨c8, -⟩, d8, -⟩, -⟩ := id h
  rcases cnt_cases a1 with rfl | rfl | rfl | rfl | rfl | rfl | rfl | rfl | rfl | rfl | rfl | rfl | rfl | hx
  · exact Or.inl ⟨S 300, va_up S' 0 0, rfl, (show fX12_count_0 S' V' 0 = some (S' 1, va_up S' 0 0) from rfl).trans (by rw [c0, d0]), rfl, R_thr h⟩
  · exact Or.inl ⟨S 301, va_up S' 0 0, rfl, (show fX12_count_0 S' V' 1 = some (S' 2, va_up S' 0 0) from rfl).trans (by rw [c1, d1]), rfl, R_thr h⟩
  · exact Or.inl ⟨S 302, va_up S' 0 0, rfl, (show fX12_count_0 S' V' 2 = some (S' 3, va_up S' 0 0) from rfl).trans (by rw [c2, d2]), rfl, R_thr h⟩
  · exact Or.inl ⟨S 303, va_up S' 0 0, rfl, (show fX12_count_0 S' V' 3 = some (S' 4, va_up S' 0 0) from rfl).trans (by rw [c3, d3]), rfl, R_thr h⟩
  · exact Or.inl ⟨S 304, va_up S' 0 0, rfl, (show fX12_count_0 S' V' 4 = some (S' 5, va_up S' 0 0) from rfl).trans (by rw [c4, d4]), rfl, R_thr h⟩
  · exact Or.inl ⟨S 305, va_up S' 0 0, rfl, (show fX12_count_0 S' V' 5 = some (S' 6, va_up S' 0 0) from rfl).trans (by rw [c5, d5]), rfl, R_thr h⟩
  · exact Or.inl ⟨S 306, va_up S' 0 0, rfl, (show fX12_count_0 S' V' 6 = some (S' 7, va_up S' 0 0) from rfl).trans (by rw [c6, d6]), rfl, R_thr h⟩
  · exact Or.inl ⟨S 3002, va_up S' 0 0, rfl, (show fX12_count_0 S' V' 7 = some (S' 42, va_up S' 0 0) from rfl).trans (by rw [c7, d7]), rfl, R_thr h⟩
  · exact Or.inl ⟨S 4200, va_up S' 0 0, rfl, (show fX12_count_0 S' V' 8 = some (S' 53, va_up S' 0 0) from rfl).trans (by rw [c8, d8]), rfl, R_thr h⟩
  · exact Or.inl ⟨S 1, va_up S' 0 0, rfl, (show fX12_count_0 S' V' 9 = some (S' 13, va_up S' 0 0) from rfl).trans (by rw [e9, e9']), rfl, R_thr h⟩
  · exact Or.inl ⟨V 2 0, va_up S' 0 0, rfl, (show fX12_count_0 S' V' 10 = some (V' 6 0, va_up S' 0 0) from rfl).trans (by rw [r0]), rfl, R_thr h⟩
  · exact Or.inl ⟨V 2 1, va_up S' 0 0, rfl, (show fX12_count_0 S' V' 11 = some (V' 6 1, va_up S' 0 0) from rfl).trans (by rw [r1]), rfl, R_thr h⟩
  · exact Or.inl ⟨V 2 2, va_up S' 0 0, rfl, (show fX12_count_0 S' V' 12 = some (V' 6 2, va_up S' 0 0) from rfl).trans (by rw [r2]), rfl, R_thr h⟩
  · have hn : ∀ k : Int32, 0 ≤ k.toInt → k.toInt ≤ 12 → ¬ a1 = k := fun k h1 h2 e => by
      subst e
      rcases hx with hx | hx
      · have := i_lt.mp hx
        have e0 : (0 : Int32).toInt = 0 := by decide
        omega
      · have := i_lt.mp hx
        have e0 : (12 : Int32).toInt = 12 := by decide
        omega
    refine Or.inr ⟨0, va_up (va_up S' 0 0) 0 1, ?_, ?_, rfl, R_thr (R_thr h)⟩
    · unfold fX11_count_0
      rw [if_neg (hn 0 (by decide) (by decide)), if_neg (hn 1 (by decide) (by decide)), if_neg (hn 2 (by decide) (by decide)), if_neg (hn 3 (by decide) (by decide)), if_neg (hn 4 (by decide) (by decide)), if_neg (hn 5 (by decide) (by decide)), if_neg (hn 6 (by decide) (by decide)), if_neg (hn 7 (by decide) (by decide)), if_neg (hn 8 (by decide) (by decide)), if_neg (hn 9 (by decide) (by decide)), if_neg (hn 10 (by decide) (by decide)), if_neg (hn 11 (by decide) (by decide)), if_neg (hn 12 (by decide) (by decide))]
    · unfold fX12_count_0
      simp only [lt_e]
      rw [within_eq, if_pos hx]
      simp only [bd1_s]
      rw [right_f rfl (by decide)]
      rfl
