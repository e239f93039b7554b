/-! the heap that the constructors leave, and the state that both sides begin with -/
def hh0 : zHp := wMd wEd
theorem F100 : ∀ a, a < 370 → (zTAU a).1 = 100 → gR hh0 a 0 = a + 1 := by decide +kernel
theorem F102 : ∀ a, a < 370 → (zTAU a).1 = 102 → gR hh0 a 0 = a + 1 ∧ gR hh0 a 1 = a + 3 ∧ gR hh0 a 2 = a + 4 := by decide +kernel
theorem F103 : ∀ a, a < 370 → (zTAU a).1 = 103 → gR hh0 a 7 = a + 1 := by decide +kernel
theorem F108 : ∀ a, a < 370 → (zTAU a).1 = 108 → gR hh0 a 0 = a + 1 := by decide +kernel
theorem F4 : ∀ a, a < 370 → (zTAU a).1 = 4 → ∀ j, j < 24 → gR hh0 a j = a + 1 + j := by decide +kernel
theorem F5 : ∀ a, a < 370 → (zTAU a).1 = 5 → ∀ j, j < 60 → gR hh0 a j = 217 + 2 * j := by decide +kernel
theorem F104 : ∀ a, a < 370 → (zTAU a).1 = 104 → a = 13 := by decide +kernel
theorem F106 : ∀ a, a < 370 → (zTAU a).1 = 106 → a = 215 := by decide +kernel
theorem F107 : ∀ a, a < 370 → (zTAU a).1 = 107 → a = 212 := by decide +kernel
theorem F109 : ∀ a, a < 370 → (zTAU a).1 = 109 → a = 211 := by decide +kernel
theorem F110 : ∀ a, a < 370 → (zTAU a).1 = 110 → a = 1 := by decide +kernel
theorem F111 : ∀ a, a < 370 → (zTAU a).1 = 111 → a = 343 := by decide +kernel
theorem zSh_0 : zSh hh0 := by
  intro a j hz
  by_cases ha : a < 370
  · unfold zshp at hz ⊢
    by_cases c100 : (zTAU a).1 = 100
    · rw [if_pos c100] at hz ⊢
      by_cases q : j = 0
      · rw [if_pos q]; rw [q]; exact F100 a ha c100
      · rw [if_neg q] at hz; exact absurd rfl hz
    · rw [if_neg c100] at hz ⊢
      by_cases c102 : (zTAU a).1 = 102
      · rw [if_pos c102] at hz ⊢
        match j, hz with
        | 0, _ => exact (F102 a ha c102).1
        | 1, _ => exact (F102 a ha c102).2.1
        | 2, _ => exact (F102 a ha c102).2.2
        | j + 3, hz => exact absurd rfl hz
      · rw [if_neg c102] at hz ⊢
        by_cases c103 : (zTAU a).1 = 103
        · rw [if_pos c103] at hz ⊢
          by_cases q : j = 7
          · rw [if_pos q]; rw [q]; exact F103 a ha c103
          · rw [if_neg q] at hz; exact absurd rfl hz
        · rw [if_neg c103] at hz ⊢
          by_cases c108 : (zTAU a).1 = 108
          · rw [if_pos c108] at hz ⊢
            by_cases q : j = 0
            · rw [if_pos q]; rw [q]; exact F108 a ha c108
            · rw [if_neg q] at hz; exact absurd rfl hz
          · rw [if_neg c108] at hz ⊢
            by_cases c4 : (zTAU a).1 = 4
            · rw [if_pos c4] at hz ⊢
              by_cases q : j < 24
              · rw [if_pos q]; exact F4 a ha c4 j q
              · rw [if_neg q] at hz; exact absurd rfl hz
            · rw [if_neg c4] at hz ⊢
              by_cases c5 : (zTAU a).1 = 5
              · rw [if_pos c5] at hz ⊢
                by_cases q : j < 60
                · rw [if_pos q]; exact F5 a ha c5 j q
                · rw [if_neg q] at hz; exact absurd rfl hz
              · rw [if_neg c5] at hz ⊢
                by_cases c104 : (zTAU a).1 = 104
                · rw [if_pos c104] at hz ⊢
                  match j, hz with
                  | 0, _ => rw [F104 a ha c104]; decide +kernel
                  | 1, _ => rw [F104 a ha c104]; decide +kernel
                  | j + 2, hz => exact absurd rfl hz
                · rw [if_neg c104] at hz ⊢
                  by_cases c106 : (zTAU a).1 = 106
                  · rw [if_pos c106] at hz ⊢
                    match j, hz with
                    | 0, _ => rw [F106 a ha c106]; decide +kernel
                    | 1, hz => exact absurd rfl hz
                    | 2, hz => exact absurd rfl hz
                    | 3, hz => exact absurd rfl hz
                    | 4, _ => rw [F106 a ha c106]; decide +kernel
                    | 5, hz => exact absurd rfl hz
                    | 6, hz => exact absurd rfl hz
                    | 7, hz => exact absurd rfl hz
                    | 8, _ => rw [F106 a ha c106]; decide +kernel
                    | 9, _ => rw [F106 a ha c106]; decide +kernel
                    | 10, _ => rw [F106 a ha c106]; decide +kernel
                    | 11, _ => rw [F106 a ha c106]; decide +kernel
                    | 12, _ => rw [F106 a ha c106]; decide +kernel
                    | j + 13, hz => exact absurd rfl hz
                  · rw [if_neg c106] at hz ⊢
                    by_cases c107 : (zTAU a).1 = 107
                    · rw [if_pos c107] at hz ⊢
                      match j, hz with
                      | 0, _ => rw [F107 a ha c107]; decide +kernel
                      | 1, _ => rw [F107 a ha c107]; decide +kernel
                      | j + 2, hz => exact absurd rfl hz
                    · rw [if_neg c107] at hz ⊢
                      by_cases c109 : (zTAU a).1 = 109
                      · rw [if_pos c109] at hz ⊢
                        match j, hz with
                        | 0, _ => rw [F109 a ha c109]; decide +kernel
                        | j + 1, hz => exact absurd rfl hz
                      · rw [if_neg c109] at hz ⊢
                        by_cases c110 : (zTAU a).1 = 110
                        · rw [if_pos c110] at hz ⊢
                          match j, hz with
                          | 0, _ => rw [F110 a ha c110]; decide +kernel
                          | 1, _ => rw [F110 a ha c110]; decide +kernel
                          | 2, _ => rw [F110 a ha c110]; decide +kernel
                          | 3, _ => rw [F110 a ha c110]; decide +kernel
                          | 4, _ => rw [F110 a ha c110]; decide +kernel
                          | 5, _ => rw [F110 a ha c110]; decide +kernel
                          | 6, _ => rw [F110 a ha c110]; decide +kernel
                          | 7, _ => rw [F110 a ha c110]; decide +kernel
                          | 8, _ => rw [F110 a ha c110]; decide +kernel
                          | 9, _ => rw [F110 a ha c110]; decide +kernel
                          | j + 10, hz => exact absurd rfl hz
                        · rw [if_neg c110] at hz ⊢
                          by_cases c111 : (zTAU a).1 = 111
                          · rw [if_pos c111] at hz ⊢
                            match j, hz with
                            | 0, _ => rw [F111 a ha c111]; decide +kernel
                            | 1, _ => rw [F111 a ha c111]; decide +kernel
                            | 2, hz => exact absurd rfl hz
                            | 3, _ => rw [F111 a ha c111]; decide +kernel
                            | 4, hz => exact absurd rfl hz
                            | 5, _ => rw [F111 a ha c111]; decide +kernel
                            | 6, hz => exact absurd rfl hz
                            | 7, _ => rw [F111 a ha c111]; decide +kernel
                            | 8, hz => exact absurd rfl hz
                            | 9, _ => rw [F111 a ha c111]; decide +kernel
                            | 10, hz => exact absurd rfl hz
                            | 11, _ => rw [F111 a ha c111]; decide +kernel
                            | 12, hz => exact absurd rfl hz
                            | 13, _ => rw [F111 a ha c111]; decide +kernel
                            | 14, _ => rw [F111 a ha c111]; decide +kernel
                            | 15, hz => exact absurd rfl hz
                            | 16, hz => exact absurd rfl hz
                            | 17, hz => exact absurd rfl hz
                            | 18, hz => exact absurd rfl hz
                            | 19, hz => exact absurd rfl hz
                            | 20, hz => exact absurd rfl hz
                            | 21, _ => rw [F111 a ha c111]; decide +kernel
                            | 22, hz => exact absurd rfl hz
                            | 23, _ => rw [F111 a ha c111]; decide +kernel
                            | 24, _ => rw [F111 a ha c111]; decide +kernel
                            | 25, _ => rw [F111 a ha c111]; decide +kernel
                            | 26, _ => rw [F111 a ha c111]; decide +kernel
                            | 27, _ => rw [F111 a ha c111]; decide +kernel
                            | 28, _ => rw [F111 a ha c111]; decide +kernel
                            | 29, _ => rw [F111 a ha c111]; decide +kernel
                            | 30, _ => rw [F111 a ha c111]; decide +kernel
                            | 31, hz => exact absurd rfl hz
                            | 32, hz => exact absurd rfl hz
                            | 33, hz => exact absurd rfl hz
                            | 34, hz => exact absurd rfl hz
                            | 35, _ => rw [F111 a ha c111]; decide +kernel
                            | 36, _ => rw [F111 a ha c111]; decide +kernel
                            | 37, _ => rw [F111 a ha c111]; decide +kernel
                            | 38, _ => rw [F111 a ha c111]; decide +kernel
                            | 39, _ => rw [F111 a ha c111]; decide +kernel
                            | 40, _ => rw [F111 a ha c111]; decide +kernel
                            | 41, hz => exact absurd rfl hz
                            | 42, _ => rw [F111 a ha c111]; decide +kernel
                            | 43, _ => rw [F111 a ha c111]; decide +kernel
                            | j + 44, hz => exact absurd rfl hz
                          · rw [if_neg c111] at hz ⊢
                            exact absurd rfl hz
  · exact absurd (by unfold zshp; rw [zTAU_out (by omega)]; rfl) hz
theorem E80 : ∀ t, t < 4 → gR hh0 80 t = 81 + 26 * t := by decide +kernel
theorem E14 : ∀ i, i < 13 → gR hh0 14 i = 15 + 5 * i := by decide +kernel
theorem E110 : gR hh0 1 10 = 185 := by decide +kernel
theorem E11 : ∀ o, o < 4 → gI hh0 11 o = -1 := by decide +kernel
theorem E15 : ∀ i, i < 13 → ∀ o, o < 4 → gI hh0 (15 + 5 * i + 3) o = -1 := by decide +kernel
