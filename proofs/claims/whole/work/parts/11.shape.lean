/-- where the references that never change lead -/
def zshp (a j : Nat) : Nat :=
  if (zTAU a).1 = 100 then (if j = 0 then a + 1 else 0)
  else if (zTAU a).1 = 102 then (match j with | 0 => a + 1 | 1 => a + 3 | 2 => a + 4 | _ => 0)
  else if (zTAU a).1 = 103 then (if j = 7 then a + 1 else 0)
  else if (zTAU a).1 = 108 then (if j = 0 then a + 1 else 0)
  else if (zTAU a).1 = 4 then (if j < 24 then a + 1 + j else 0)
  else if (zTAU a).1 = 5 then (if j < 60 then 217 + 2 * j else 0)
  else if (zTAU a).1 = 104 then (match j with | 0 => 8 | 1 => 14 | _ => 0)
  else if (zTAU a).1 = 106 then (match j with | 0 => 216 | 4 => 9 | 8 => 337 | 9 => 338 | 10 => 339 | 11 => 340 | 12 => 341 | _ => 0)
  else if (zTAU a).1 = 107 then (match j with | 0 => 213 | 1 => 214 | _ => 0)
  else if (zTAU a).1 = 109 then (match j with | 0 => 2 | _ => 0)
  else if (zTAU a).1 = 110 then (match j with | 0 => 2 | 1 => 4 | 2 => 6 | 3 => 8 | 4 => 13 | 5 => 80 | 6 => 211 | 7 => 212 | 8 => 215 | 9 => 342 | _ => 0)
  else if (zTAU a).1 = 111 then (match j with | 0 => 344 | 1 => 345 | 3 => 346 | 5 => 347 | 7 => 348 | 9 => 349 | 11 => 350 | 13 => 351 | 14 => 352 | 21 => 353 | 23 => 354 | 24 => 355 | 25 => 356 | 26 => 357 | 27 => 358 | 28 => 359 | 29 => 360 | 30 => 361 | 35 => 362 | 36 => 363 | 37 => 364 | 38 => 365 | 39 => 366 | 40 => 367 | 42 => 368 | 43 => 369 | _ => 0)
  else 0
def zSh (h : zHp) : Prop := ∀ a j, zshp a j ≠ 0 → gR h a j = zshp a j
def zlen (a : Nat) : Nat := (zTAU a).2
theorem zTAU_out {a : Nat} (h : 369 < a) : zTAU a = (99, 0) := by
  obtain ⟨k, rfl⟩ : ∃ k, a = k + 1 := ⟨a - 1, by omega⟩
  show zTL.getD k (99, 0) = _
  have hl : zTL.length = 369 := by decide +kernel
  rw [List.getD_eq_getElem?_getD, List.getElem?_eq_none (by omega)]
  rfl
theorem zT_of {a : Nat} {t : Nat × Nat} (h : zTAU a = t) (h9 : t.1 ≠ 99) : zT 369 a = t := by
  unfold zT
  by_cases h1 : 369 < a
  · rw [zTAU_out h1] at h
    exact absurd (by rw [← h]) h9
  · by_cases h0 : a = 0
    · subst h0
      exact absurd (by rw [← h]; rfl) h9
    · rw [if_pos ⟨by omega, by omega⟩]
      exact h
theorem zT_le {a : Nat} {t : Nat × Nat} (h : zT 369 a = t) (h9 : t.1 ≠ 99) : 1 ≤ a ∧ a ≤ 369 ∧ zTAU a = t := zT_at h h9
theorem zT_up {a : Nat} (k : Nat) {t t' : Nat × Nat} (hall : ∀ a, a < 370 → zTAU a = t → zTAU (a + k) = t') (h9 : t'.1 ≠ 99) (g9 : t.1 ≠ 99) (h : zT 369 a = t) : zT 369 (a + k) = t' := by
  obtain ⟨q1, q2, q3⟩ := zT_at h g9
  exact zT_of (hall a (by omega) q3) h9
theorem zrow_all : ∀ a, a < 370 → zTAU a = (100, 2) → (zTAU (a + 1)).1 = 0 := by decide +kernel
theorem zrow1 {a : Nat} (h : zT 369 a = (100, 2)) : zT 369 (a + 1) = (0, zlen (a + 1)) := by
  obtain ⟨q1, q2, q3⟩ := zT_at h (by decide)
  refine zT_of ?_ (by simp)
  have := zrow_all a (by omega) q3
  unfold zlen
  rw [← this]
theorem zdoc0 {a : Nat} (h : zT 369 a = (102, 3)) : zT 369 (a + 1) = (100, 2) := zT_up 1 (by decide +kernel) (by decide) (by decide) h
theorem zdoc1 {a : Nat} (h : zT 369 a = (102, 3)) : zT 369 (a + 3) = (0, 4) := zT_up 3 (by decide +kernel) (by decide) (by decide) h
theorem zdoc2 {a : Nat} (h : zT 369 a = (102, 3)) : zT 369 (a + 4) = (0, 4) := zT_up 4 (by decide +kernel) (by decide) (by decide) h
theorem zdocB {a : Nat} (h : zT 369 a = (102, 3)) : zT 369 (a + 2) = (0, 200) := zT_up 2 (by decide +kernel) (by decide) (by decide) h
theorem zfld7 {a : Nat} (h : zT 369 a = (103, 8)) : zT 369 (a + 1) = (0, 4) := zT_up 1 (by decide +kernel) (by decide) (by decide) h
theorem ztm0 {a : Nat} (h : zT 369 a = (108, 2)) : zT 369 (a + 1) = (4, 24) := zT_up 1 (by decide +kernel) (by decide) (by decide) h
theorem zitm_all : ∀ a, a < 370 → zTAU a = (108, 2) → ∀ k, k < 24 → zTAU (a + 2 + k) = (105, 13) := by decide +kernel
theorem zitm {a : Nat} (h : zT 369 a = (108, 2)) {k : Nat} (hk : k < 24) : zT 369 (a + 2 + k) = (105, 13) := by
  obtain ⟨q1, q2, q3⟩ := zT_at h (by decide)
  exact zT_of (zitm_all a (by omega) q3 k hk) (by decide)
theorem zfds_all : ∀ k, k < 60 → zTAU (217 + 2 * k) = (103, 8) := by decide +kernel
theorem zfds {k : Nat} (hk : k < 60) : zT 369 (217 + 2 * k) = (103, 8) := zT_of (zfds_all k hk) (by decide)
theorem sh_0_0 {h : zHp} {a : Nat} (hS : zSh h) (hT : zT 369 a = (100, 2)) : gR h a 0 = a + 1 := by
  have q : zshp a 0 = a + 1 := by unfold zshp; rw [(zT_at hT (by decide)).2.2]; rfl
  rw [hS a 0 (by rw [q]; omega), q]
theorem sh_2_0 {h : zHp} {a : Nat} (hS : zSh h) (hT : zT 369 a = (102, 3)) : gR h a 0 = a + 1 := by
  have q : zshp a 0 = a + 1 := by unfold zshp; rw [(zT_at hT (by decide)).2.2]; rfl
  rw [hS a 0 (by rw [q]; omega), q]
theorem sh_2_1 {h : zHp} {a : Nat} (hS : zSh h) (hT : zT 369 a = (102, 3)) : gR h a 1 = a + 3 := by
  have q : zshp a 1 = a + 3 := by unfold zshp; rw [(zT_at hT (by decide)).2.2]; rfl
  rw [hS a 1 (by rw [q]; omega), q]
theorem sh_2_2 {h : zHp} {a : Nat} (hS : zSh h) (hT : zT 369 a = (102, 3)) : gR h a 2 = a + 4 := by
  have q : zshp a 2 = a + 4 := by unfold zshp; rw [(zT_at hT (by decide)).2.2]; rfl
  rw [hS a 2 (by rw [q]; omega), q]
theorem sh_3_7 {h : zHp} {a : Nat} (hS : zSh h) (hT : zT 369 a = (103, 8)) : gR h a 7 = a + 1 := by
  have q : zshp a 7 = a + 1 := by unfold zshp; rw [(zT_at hT (by decide)).2.2]; rfl
  rw [hS a 7 (by rw [q]; omega), q]
theorem sh_8_0 {h : zHp} {a : Nat} (hS : zSh h) (hT : zT 369 a = (108, 2)) : gR h a 0 = a + 1 := by
  have q : zshp a 0 = a + 1 := by unfold zshp; rw [(zT_at hT (by decide)).2.2]; rfl
  rw [hS a 0 (by rw [q]; omega), q]
theorem sh_itm {h : zHp} {a k : Nat} (hS : zSh h) (hT : zT 369 a = (108, 2)) (hk : k < 24) : gR h (a + 1) k = a + 2 + k := by
  have q : zshp (a + 1) k = a + 2 + k := by
    unfold zshp
    rw [(zT_at (ztm0 hT) (by decide)).2.2]
    show (if k < 24 then a + 1 + 1 + k else 0) = _
    rw [if_pos hk]
  rw [hS (a + 1) k (by rw [q]; omega), q]
theorem sh_fds {h : zHp} {k : Nat} (hS : zSh h) (hk : k < 60) : gR h 216 k = 217 + 2 * k := by
  have q : zshp 216 k = 217 + 2 * k := by
    show (if k < 60 then 217 + 2 * k else 0) = _
    rw [if_pos hk]
  rw [hS 216 k (by rw [q]; omega), q]
theorem sh_4_0 {h : zHp} (hS : zSh h) : gR h 13 0 = 8 := hS 13 0 (by decide +kernel)
theorem sh_4_1 {h : zHp} (hS : zSh h) : gR h 13 1 = 14 := hS 13 1 (by decide +kernel)
theorem sh_6_0 {h : zHp} (hS : zSh h) : gR h 215 0 = 216 := hS 215 0 (by decide +kernel)
theorem sh_6_4 {h : zHp} (hS : zSh h) : gR h 215 4 = 9 := hS 215 4 (by decide +kernel)
theorem sh_6_8 {h : zHp} (hS : zSh h) : gR h 215 8 = 337 := hS 215 8 (by decide +kernel)
theorem sh_6_9 {h : zHp} (hS : zSh h) : gR h 215 9 = 338 := hS 215 9 (by decide +kernel)
theorem sh_6_10 {h : zHp} (hS : zSh h) : gR h 215 10 = 339 := hS 215 10 (by decide +kernel)
theorem sh_6_11 {h : zHp} (hS : zSh h) : gR h 215 11 = 340 := hS 215 11 (by decide +kernel)
theorem sh_6_12 {h : zHp} (hS : zSh h) : gR h 215 12 = 341 := hS 215 12 (by decide +kernel)
theorem sh_7_0 {h : zHp} (hS : zSh h) : gR h 212 0 = 213 := hS 212 0 (by decide +kernel)
theorem sh_7_1 {h : zHp} (hS : zSh h) : gR h 212 1 = 214 := hS 212 1 (by decide +kernel)
theorem sh_9_0 {h : zHp} (hS : zSh h) : gR h 211 0 = 2 := hS 211 0 (by decide +kernel)
theorem sh_10_0 {h : zHp} (hS : zSh h) : gR h 1 0 = 2 := hS 1 0 (by decide +kernel)
theorem sh_10_1 {h : zHp} (hS : zSh h) : gR h 1 1 = 4 := hS 1 1 (by decide +kernel)
theorem sh_10_2 {h : zHp} (hS : zSh h) : gR h 1 2 = 6 := hS 1 2 (by decide +kernel)
theorem sh_10_3 {h : zHp} (hS : zSh h) : gR h 1 3 = 8 := hS 1 3 (by decide +kernel)
theorem sh_10_4 {h : zHp} (hS : zSh h) : gR h 1 4 = 13 := hS 1 4 (by decide +kernel)
theorem sh_10_5 {h : zHp} (hS : zSh h) : gR h 1 5 = 80 := hS 1 5 (by decide +kernel)
theorem sh_10_6 {h : zHp} (hS : zSh h) : gR h 1 6 = 211 := hS 1 6 (by decide +kernel)
theorem sh_10_7 {h : zHp} (hS : zSh h) : gR h 1 7 = 212 := hS 1 7 (by decide +kernel)
theorem sh_10_8 {h : zHp} (hS : zSh h) : gR h 1 8 = 215 := hS 1 8 (by decide +kernel)
theorem sh_10_9 {h : zHp} (hS : zSh h) : gR h 1 9 = 342 := hS 1 9 (by decide +kernel)
theorem sh_11_0 {h : zHp} (hS : zSh h) : gR h 343 0 = 344 := hS 343 0 (by decide +kernel)
theorem sh_11_1 {h : zHp} (hS : zSh h) : gR h 343 1 = 345 := hS 343 1 (by decide +kernel)
theorem sh_11_3 {h : zHp} (hS : zSh h) : gR h 343 3 = 346 := hS 343 3 (by decide +kernel)
theorem sh_11_5 {h : zHp} (hS : zSh h) : gR h 343 5 = 347 := hS 343 5 (by decide +kernel)
theorem sh_11_7 {h : zHp} (hS : zSh h) : gR h 343 7 = 348 := hS 343 7 (by decide +kernel)
theorem sh_11_9 {h : zHp} (hS : zSh h) : gR h 343 9 = 349 := hS 343 9 (by decide +kernel)
theorem sh_11_11 {h : zHp} (hS : zSh h) : gR h 343 11 = 350 := hS 343 11 (by decide +kernel)
theorem sh_11_13 {h : zHp} (hS : zSh h) : gR h 343 13 = 351 := hS 343 13 (by decide +kernel)
theorem sh_11_14 {h : zHp} (hS : zSh h) : gR h 343 14 = 352 := hS 343 14 (by decide +kernel)
theorem sh_11_21 {h : zHp} (hS : zSh h) : gR h 343 21 = 353 := hS 343 21 (by decide +kernel)
theorem sh_11_23 {h : zHp} (hS : zSh h) : gR h 343 23 = 354 := hS 343 23 (by decide +kernel)
theorem sh_11_24 {h : zHp} (hS : zSh h) : gR h 343 24 = 355 := hS 343 24 (by decide +kernel)
theorem sh_11_25 {h : zHp} (hS : zSh h) : gR h 343 25 = 356 := hS 343 25 (by decide +kernel)
theorem sh_11_26 {h : zHp} (hS : zSh h) : gR h 343 26 = 357 := hS 343 26 (by decide +kernel)
theorem sh_11_27 {h : zHp} (hS : zSh h) : gR h 343 27 = 358 := hS 343 27 (by decide +kernel)
theorem sh_11_28 {h : zHp} (hS : zSh h) : gR h 343 28 = 359 := hS 343 28 (by decide +kernel)
theorem sh_11_29 {h : zHp} (hS : zSh h) : gR h 343 29 = 360 := hS 343 29 (by decide +kernel)
theorem sh_11_30 {h : zHp} (hS : zSh h) : gR h 343 30 = 361 := hS 343 30 (by decide +kernel)
theorem sh_11_35 {h : zHp} (hS : zSh h) : gR h 343 35 = 362 := hS 343 35 (by decide +kernel)
theorem sh_11_36 {h : zHp} (hS : zSh h) : gR h 343 36 = 363 := hS 343 36 (by decide +kernel)
theorem sh_11_37 {h : zHp} (hS : zSh h) : gR h 343 37 = 364 := hS 343 37 (by decide +kernel)
theorem sh_11_38 {h : zHp} (hS : zSh h) : gR h 343 38 = 365 := hS 343 38 (by decide +kernel)
theorem sh_11_39 {h : zHp} (hS : zSh h) : gR h 343 39 = 366 := hS 343 39 (by decide +kernel)
theorem sh_11_40 {h : zHp} (hS : zSh h) : gR h 343 40 = 367 := hS 343 40 (by decide +kernel)
theorem sh_11_42 {h : zHp} (hS : zSh h) : gR h 343 42 = 368 := hS 343 42 (by decide +kernel)
theorem sh_11_43 {h : zHp} (hS : zSh h) : gR h 343 43 = 369 := hS 343 43 (by decide +kernel)
theorem tT_1 : zT 369 1 = (110, 12) := by decide +kernel
theorem tT_2 : zT 369 2 = (100, 2) := by decide +kernel
theorem tT_3 : zT 369 3 = (0, 120) := by decide +kernel
theorem tT_4 : zT 369 4 = (100, 2) := by decide +kernel
theorem tT_5 : zT 369 5 = (0, 32) := by decide +kernel
theorem tT_6 : zT 369 6 = (100, 2) := by decide +kernel
theorem tT_7 : zT 369 7 = (0, 200) := by decide +kernel
theorem tT_8 : zT 369 8 = (102, 3) := by decide +kernel
theorem tT_9 : zT 369 9 = (100, 2) := by decide +kernel
theorem tT_10 : zT 369 10 = (0, 200) := by decide +kernel
theorem tT_11 : zT 369 11 = (0, 4) := by decide +kernel
theorem tT_12 : zT 369 12 = (0, 4) := by decide +kernel
theorem tT_13 : zT 369 13 = (104, 4) := by decide +kernel
theorem tT_14 : zT 369 14 = (2, 13) := by decide +kernel
theorem tT_80 : zT 369 80 = (3, 4) := by decide +kernel
theorem tT_211 : zT 369 211 = (109, 5) := by decide +kernel
theorem tT_212 : zT 369 212 = (107, 3) := by decide +kernel
theorem tT_213 : zT 369 213 = (0, 16) := by decide +kernel
theorem tT_214 : zT 369 214 = (0, 16) := by decide +kernel
theorem tT_215 : zT 369 215 = (106, 14) := by decide +kernel
theorem tT_216 : zT 369 216 = (5, 60) := by decide +kernel
theorem tT_337 : zT 369 337 = (0, 4) := by decide +kernel
theorem tT_338 : zT 369 338 = (1, 24) := by decide +kernel
theorem tT_339 : zT 369 339 = (0, 24) := by decide +kernel
theorem tT_340 : zT 369 340 = (0, 24) := by decide +kernel
theorem tT_341 : zT 369 341 = (0, 4) := by decide +kernel
theorem tT_342 : zT 369 342 = (0, 201) := by decide +kernel
theorem tT_343 : zT 369 343 = (111, 45) := by decide +kernel
theorem tT_344 : zT 369 344 = (0, 213) := by decide +kernel
theorem tT_345 : zT 369 345 = (0, 2556) := by decide +kernel
theorem tT_346 : zT 369 346 = (0, 2556) := by decide +kernel
theorem tT_347 : zT 369 347 = (0, 213) := by decide +kernel
theorem tT_348 : zT 369 348 = (0, 32) := by decide +kernel
theorem tT_349 : zT 369 349 = (0, 200) := by decide +kernel
theorem tT_350 : zT 369 350 = (0, 120) := by decide +kernel
theorem tT_351 : zT 369 351 = (0, 1680) := by decide +kernel
theorem tT_352 : zT 369 352 = (0, 5) := by decide +kernel
theorem tT_353 : zT 369 353 = (0, 32) := by decide +kernel
theorem tT_354 : zT 369 354 = (0, 60) := by decide +kernel
theorem tT_355 : zT 369 355 = (0, 60) := by decide +kernel
theorem tT_356 : zT 369 356 = (0, 60) := by decide +kernel
theorem tT_357 : zT 369 357 = (0, 60) := by decide +kernel
theorem tT_358 : zT 369 358 = (0, 60) := by decide +kernel
theorem tT_359 : zT 369 359 = (0, 60) := by decide +kernel
theorem tT_360 : zT 369 360 = (0, 60) := by decide +kernel
theorem tT_361 : zT 369 361 = (0, 240) := by decide +kernel
theorem tT_362 : zT 369 362 = (1, 24) := by decide +kernel
theorem tT_363 : zT 369 363 = (0, 24) := by decide +kernel
theorem tT_364 : zT 369 364 = (0, 24) := by decide +kernel
theorem tT_365 : zT 369 365 = (0, 4) := by decide +kernel
theorem tT_366 : zT 369 366 = (0, 4) := by decide +kernel
theorem tT_367 : zT 369 367 = (0, 4) := by decide +kernel
theorem tT_368 : zT 369 368 = (0, 4) := by decide +kernel
theorem tT_369 : zT 369 369 = (0, 201) := by decide +kernel
theorem zlit {z : Int} (h : (decide (-2147483648 ≤ z) && decide (z ≤ 2147483647)) = true) : zII z := by
  rw [Bool.and_eq_true, decide_eq_true_eq, decide_eq_true_eq] at h
  exact h
theorem zlitL {z : Int} (h : (decide (-9223372036854775808 ≤ z) && decide (z ≤ 9223372036854775807)) = true) : zIL z := by
  rw [Bool.and_eq_true, decide_eq_true_eq, decide_eq_true_eq] at h
  exact h
abbrev wpN (G : zG) (d : Nat) (M : zM) (pc : Nat) (ls : zLs) (st : List zV) (h : zHp) (Q : Option zV → zHp → Prop) : Prop := wp G d 369 369 M 369 pc ls st h Q
/-- a call's end by the sort of its answer -/
def qI (P : Int → zHp → Prop) : Option zV → zHp → Prop := fun v h => ∃ z : Int, v = some (vI z) ∧ P z h
def qL (P : Int → zHp → Prop) : Option zV → zHp → Prop := fun v h => ∃ z : Int, v = some (vL z) ∧ P z h
def qV (P : zHp → Prop) : Option zV → zHp → Prop := fun v h => v = none ∧ P h
theorem qI_i {P : Int → zHp → Prop} {z : Int} {h : zHp} (k : P z h) : qI P (some (vI z)) h := ⟨z, rfl, k⟩
theorem qL_i {P : Int → zHp → Prop} {z : Int} {h : zHp} (k : P z h) : qL P (some (vL z)) h := ⟨z, rfl, k⟩
theorem qV_i {P : zHp → Prop} {h : zHp} (k : P h) : qV P none h := ⟨rfl, k⟩
def zVm (M : zM) (k c : Nat) : Prop := zMd M k ∧ Cond.instanceMethod M.1 ∈ zgw ∧ Cond.selects M.1.cls M.1 M.1 ∈ zgw ∧ ∃ T : u_T, zcl[c]? = some (M.1.cls, T, zN c)
section CALLN
variable {G : zG} {d : Nat} {M : zM} {pc : Nat} {ls : zLs} {st : List zV} {h : zHp} {Q : Option zV → zHp → Prop}
theorem wq_pick {R : Room} {Z : List Frame → Array Value → State → State → Prop} {X : Array Value → State → Prop} {n0 n : Nat} {ls' : zLs} (ks : List Nat) (e : ks.filterMap (fun k => ls[k]?) = ls') (k : wq G R Z X M n0 n pc ls' st h) : wq G R Z X M n0 n pc ls st h := by
  refine wq_sub (fun q hq => ?_) k
  rw [← e] at hq
  obtain ⟨i, -, hi⟩ := List.mem_filterMap.mp hq
  exact List.mem_of_getElem? hi
theorem wq_pc {R : Room} {Z : List Frame → Array Value → State → State → Prop} {X : Array Value → State → Prop} {n0 n pc' : Nat} (e : pc = pc') (k : wq G R Z X M n0 n pc' ls st h) : wq G R Z X M n0 n pc ls st h := e ▸ k
theorem wN_V {idx d' a c kP : Nat} {M' : zM} {As stk : List zV} {Q' : Option zV → zHp → Prop} (vm : zVm M' kP c) (hlk : Cond.methodLink M.1.cls idx M'.1 ∈ zgw) (ht : zT 369 a = (100 + c, zN c)) (hst : stk = As.reverse ++ vR a :: st) (hk : As.length = kP) (hsz : zsz (vR a :: As) ≤ M'.2.2.1) (hcat : (st.map zcat).sum ≤ 8) (hd : d' + 1 ≤ d) (dd : decode M.2.1 pc = .ok (.invokevirtual idx, 3))
    (hw : wpN G d' M' 0 (zar 0 (vR a :: As)) [] h Q') (k : ∀ (v : Option zV) (h' : zHp), Q' v h' → wpN G d M (pc + 3) ls (v.toList ++ st) h' Q) : wpN G d M pc ls stk h Q := by
  obtain ⟨hm, hi, hse, T, hc⟩ := vm
  exact wq_callV kP hm hi hse hlk hc ht hst hk hsz hcat (Nat.le_refl _) (zFit_rm hd (Nat.le_refl _)) dd hw (fun v h' q _ => k v h' q)
theorem wN_S {idx d' kP : Nat} {M' : zM} {As stk : List zV} {Q' : Option zV → zHp → Prop} (hm : zMd M' kP) (hs : Cond.static M'.1 ∈ zgw) (hlk : Cond.methodLink M.1.cls idx M'.1 ∈ zgw) (hst : stk = As.reverse ++ st) (hk : As.length = kP) (hsz : zsz As ≤ M'.2.2.1) (hcat : (st.map zcat).sum ≤ 8) (hd : d' + 1 ≤ d) (dd : decode M.2.1 pc = .ok (.invokestatic idx, 3))
    (hw : wpN G d' M' 0 (zar 0 As) [] h Q') (k : ∀ (v : Option zV) (h' : zHp), Q' v h' → wpN G d M (pc + 3) ls (v.toList ++ st) h' Q) : wpN G d M pc ls stk h Q :=
  wq_callS kP hm hs hlk hst hk hsz hcat (Nat.le_refl _) (zFit_rm hd (Nat.le_refl _)) dd hw (fun v h' q _ => k v h' q)
end CALLN
theorem vm_X0_has : zVm M_X0_has 1 0 := ⟨md_X0_has, mi_X0_has, mv_X0_has, TX0, rfl⟩
theorem vm_X0_get : zVm M_X0_get 1 0 := ⟨md_X0_get, mi_X0_get, mv_X0_get, TX0, rfl⟩
theorem vm_X0_put : zVm M_X0_put 2 0 := ⟨md_X0_put, mi_X0_put, mv_X0_put, TX0, rfl⟩
theorem vm_X0_putAll : zVm M_X0_putAll 2 0 := ⟨md_X0_putAll, mi_X0_putAll, mv_X0_putAll, TX0, rfl⟩
theorem vm_X0_append : zVm M_X0_append 1 0 := ⟨md_X0_append, mi_X0_append, mv_X0_append, TX0, rfl⟩
theorem vm_X0_become : zVm M_X0_become 3 0 := ⟨md_X0_become, mi_X0_become, mv_X0_become, TX0, rfl⟩
theorem vm_X0_openGap : zVm M_X0_openGap 2 0 := ⟨md_X0_openGap, mi_X0_openGap, mv_X0_openGap, TX0, rfl⟩
theorem vm_X0_closeGap : zVm M_X0_closeGap 2 0 := ⟨md_X0_closeGap, mi_X0_closeGap, mv_X0_closeGap, TX0, rfl⟩
theorem vm_X0_read : zVm M_X0_read 1 0 := ⟨md_X0_read, mi_X0_read, mv_X0_read, TX0, rfl⟩
theorem vm_X0_write : zVm M_X0_write 2 0 := ⟨md_X0_write, mi_X0_write, mv_X0_write, TX0, rfl⟩
theorem vm_X2_isPresent : zVm M_X2_isPresent 1 2 := ⟨md_X2_isPresent, mi_X2_isPresent, mv_X2_isPresent, TX2, rfl⟩
theorem vm_X2_drop : zVm M_X2_drop 1 2 := ⟨md_X2_drop, mi_X2_drop, mv_X2_drop, TX2, rfl⟩
theorem vm_X2_presentOverlays : zVm M_X2_presentOverlays 0 2 := ⟨md_X2_presentOverlays, mi_X2_presentOverlays, mv_X2_presentOverlays, TX2, rfl⟩
theorem vm_X2_uses : zVm M_X2_uses 1 2 := ⟨md_X2_uses, mi_X2_uses, mv_X2_uses, TX2, rfl⟩
theorem vm_X2_become : zVm M_X2_become 1 2 := ⟨md_X2_become, mi_X2_become, mv_X2_become, TX2, rfl⟩
theorem vm_X2_openGap : zVm M_X2_openGap 2 2 := ⟨md_X2_openGap, mi_X2_openGap, mv_X2_openGap, TX2, rfl⟩
theorem vm_X2_closeGap : zVm M_X2_closeGap 2 2 := ⟨md_X2_closeGap, mi_X2_closeGap, mv_X2_closeGap, TX2, rfl⟩
theorem vm_X3_isCheck : zVm M_X3_isCheck 0 3 := ⟨md_X3_isCheck, mi_X3_isCheck, mv_X3_isCheck, TX3, rfl⟩
theorem vm_X3_contains : zVm M_X3_contains 1 3 := ⟨md_X3_contains, mi_X3_contains, mv_X3_contains, TX3, rfl⟩
theorem vm_X3_takes : zVm M_X3_takes 1 3 := ⟨md_X3_takes, mi_X3_takes, mv_X3_takes, TX3, rfl⟩
theorem vm_X3_pathName : zVm M_X3_pathName 1 3 := ⟨md_X3_pathName, mi_X3_pathName, mv_X3_pathName, TX3, rfl⟩
theorem vm_X3_property : zVm M_X3_property 1 3 := ⟨md_X3_property, mi_X3_property, mv_X3_property, TX3, rfl⟩
theorem vm_X4_keep : zVm M_X4_keep 0 4 := ⟨md_X4_keep, mi_X4_keep, mv_X4_keep, TX4, rfl⟩
theorem vm_X4_takeBack : zVm M_X4_takeBack 0 4 := ⟨md_X4_takeBack, mi_X4_takeBack, mv_X4_takeBack, TX4, rfl⟩
theorem vm_X4_commit : zVm M_X4_commit 0 4 := ⟨md_X4_commit, mi_X4_commit, mv_X4_commit, TX4, rfl⟩
theorem vm_X4_back : zVm M_X4_back 0 4 := ⟨md_X4_back, mi_X4_back, mv_X4_back, TX4, rfl⟩
theorem vm_X4_forward : zVm M_X4_forward 0 4 := ⟨md_X4_forward, mi_X4_forward, mv_X4_forward, TX4, rfl⟩
theorem vm_X4_dropOldest : zVm M_X4_dropOldest 0 4 := ⟨md_X4_dropOldest, mi_X4_dropOldest, mv_X4_dropOldest, TX4, rfl⟩
theorem vm_X5_reset : zVm M_X5_reset 1 5 := ⟨md_X5_reset, mi_X5_reset, mv_X5_reset, TX5, rfl⟩
theorem vm_X5_isPlainInteger : zVm M_X5_isPlainInteger 0 5 := ⟨md_X5_isPlainInteger, mi_X5_isPlainInteger, mv_X5_isPlainInteger, TX5, rfl⟩
theorem vm_X6_compute : zVm M_X6_compute 2 6 := ⟨md_X6_compute, mi_X6_compute, mv_X6_compute, TX6, rfl⟩
theorem vm_X6_makeStep : zVm M_X6_makeStep 0 6 := ⟨md_X6_makeStep, mi_X6_makeStep, mv_X6_makeStep, TX6, rfl⟩
theorem vm_X6_goThrough : zVm M_X6_goThrough 2 6 := ⟨md_X6_goThrough, mi_X6_goThrough, mv_X6_goThrough, TX6, rfl⟩
theorem vm_X6_repeatStructure : zVm M_X6_repeatStructure 2 6 := ⟨md_X6_repeatStructure, mi_X6_repeatStructure, mv_X6_repeatStructure, TX6, rfl⟩
theorem vm_X6_repetitionsOf : zVm M_X6_repetitionsOf 1 6 := ⟨md_X6_repetitionsOf, mi_X6_repetitionsOf, mv_X6_repetitionsOf, TX6, rfl⟩
theorem vm_X6_align : zVm M_X6_align 1 6 := ⟨md_X6_align, mi_X6_align, mv_X6_align, TX6, rfl⟩
theorem vm_X6_layFields : zVm M_X6_layFields 2 6 := ⟨md_X6_layFields, mi_X6_layFields, mv_X6_layFields, TX6, rfl⟩
theorem vm_X6_layField : zVm M_X6_layField 2 6 := ⟨md_X6_layField, mi_X6_layField, mv_X6_layField, TX6, rfl⟩
theorem vm_X6_seek : zVm M_X6_seek 1 6 := ⟨md_X6_seek, mi_X6_seek, mv_X6_seek, TX6, rfl⟩
theorem vm_X6_firstSought : zVm M_X6_firstSought 0 6 := ⟨md_X6_firstSought, mi_X6_firstSought, mv_X6_firstSought, TX6, rfl⟩
theorem vm_X6_isSought : zVm M_X6_isSought 1 6 := ⟨md_X6_isSought, mi_X6_isSought, mv_X6_isSought, TX6, rfl⟩
theorem vm_X7_faultOf : zVm M_X7_faultOf 1 7 := ⟨md_X7_faultOf, mi_X7_faultOf, mv_X7_faultOf, TX7, rfl⟩
theorem vm_X7_fits : zVm M_X7_fits 2 7 := ⟨md_X7_fits, mi_X7_fits, mv_X7_fits, TX7, rfl⟩
theorem vm_X8_append : zVm M_X8_append 1 8 := ⟨md_X8_append, mi_X8_append, mv_X8_append, TX8, rfl⟩
theorem vm_X8_sibling : zVm M_X8_sibling 2 8 := ⟨md_X8_sibling, mi_X8_sibling, mv_X8_sibling, TX8, rfl⟩
theorem vm_X8_lookUp : zVm M_X8_lookUp 2 8 := ⟨md_X8_lookUp, mi_X8_lookUp, mv_X8_lookUp, TX8, rfl⟩
theorem vm_X9_faultOf : zVm M_X9_faultOf 1 9 := ⟨md_X9_faultOf, mi_X9_faultOf, mv_X9_faultOf, TX9, rfl⟩
theorem vm_X9_moveTo : zVm M_X9_moveTo 1 9 := ⟨md_X9_moveTo, mi_X9_moveTo, mv_X9_moveTo, TX9, rfl⟩
theorem vm_X9_refuse : zVm M_X9_refuse 1 9 := ⟨md_X9_refuse, mi_X9_refuse, mv_X9_refuse, TX9, rfl⟩
theorem vm_X9_parseSign : zVm M_X9_parseSign 1 9 := ⟨md_X9_parseSign, mi_X9_parseSign, mv_X9_parseSign, TX9, rfl⟩
theorem vm_X9_parseBlock : zVm M_X9_parseBlock 2 9 := ⟨md_X9_parseBlock, mi_X9_parseBlock, mv_X9_parseBlock, TX9, rfl⟩
theorem vm_X9_parseItem : zVm M_X9_parseItem 2 9 := ⟨md_X9_parseItem, mi_X9_parseItem, mv_X9_parseItem, TX9, rfl⟩
theorem vm_X9_parseCondition : zVm M_X9_parseCondition 1 9 := ⟨md_X9_parseCondition, mi_X9_parseCondition, mv_X9_parseCondition, TX9, rfl⟩
theorem vm_X9_parseGap : zVm M_X9_parseGap 1 9 := ⟨md_X9_parseGap, mi_X9_parseGap, mv_X9_parseGap, TX9, rfl⟩
theorem vm_X9_parseName : zVm M_X9_parseName 1 9 := ⟨md_X9_parseName, mi_X9_parseName, mv_X9_parseName, TX9, rfl⟩
theorem vm_X9_parseType : zVm M_X9_parseType 2 9 := ⟨md_X9_parseType, mi_X9_parseType, mv_X9_parseType, TX9, rfl⟩
theorem vm_X9_parseInteger : zVm M_X9_parseInteger 1 9 := ⟨md_X9_parseInteger, mi_X9_parseInteger, mv_X9_parseInteger, TX9, rfl⟩
theorem vm_X9_parseStructure : zVm M_X9_parseStructure 2 9 := ⟨md_X9_parseStructure, mi_X9_parseStructure, mv_X9_parseStructure, TX9, rfl⟩
theorem vm_X9_parseCheck : zVm M_X9_parseCheck 3 9 := ⟨md_X9_parseCheck, mi_X9_parseCheck, mv_X9_parseCheck, TX9, rfl⟩
theorem vm_X9_parseSibling : zVm M_X9_parseSibling 2 9 := ⟨md_X9_parseSibling, mi_X9_parseSibling, mv_X9_parseSibling, TX9, rfl⟩
theorem vm_X9_parseCount : zVm M_X9_parseCount 1 9 := ⟨md_X9_parseCount, mi_X9_parseCount, mv_X9_parseCount, TX9, rfl⟩
theorem vm_X9_parseReference : zVm M_X9_parseReference 1 9 := ⟨md_X9_parseReference, mi_X9_parseReference, mv_X9_parseReference, TX9, rfl⟩
theorem vm_X9_parseNumber : zVm M_X9_parseNumber 0 9 := ⟨md_X9_parseNumber, mi_X9_parseNumber, mv_X9_parseNumber, TX9, rfl⟩
theorem vm_X10_type : zVm M_X10_type 1 10 := ⟨md_X10_type, mi_X10_type, mv_X10_type, TX10, rfl⟩
theorem vm_X10_clearText : zVm M_X10_clearText 0 10 := ⟨md_X10_clearText, mi_X10_clearText, mv_X10_clearText, TX10, rfl⟩
theorem vm_X10_templateFault : zVm M_X10_templateFault 0 10 := ⟨md_X10_templateFault, mi_X10_templateFault, mv_X10_templateFault, TX10, rfl⟩
theorem vm_X10_define : zVm M_X10_define 1 10 := ⟨md_X10_define, mi_X10_define, mv_X10_define, TX10, rfl⟩
theorem vm_X10_items : zVm M_X10_items 1 10 := ⟨md_X10_items, mi_X10_items, mv_X10_items, TX10, rfl⟩
theorem vm_X10_patternFault : zVm M_X10_patternFault 0 10 := ⟨md_X10_patternFault, mi_X10_patternFault, mv_X10_patternFault, TX10, rfl⟩
theorem vm_X10_find : zVm M_X10_find 1 10 := ⟨md_X10_find, mi_X10_find, mv_X10_find, TX10, rfl⟩
theorem vm_X10_matches : zVm M_X10_matches 0 10 := ⟨md_X10_matches, mi_X10_matches, mv_X10_matches, TX10, rfl⟩
theorem vm_X10_length : zVm M_X10_length 0 10 := ⟨md_X10_length, mi_X10_length, mv_X10_length, TX10, rfl⟩
theorem vm_X10_byteAt : zVm M_X10_byteAt 1 10 := ⟨md_X10_byteAt, mi_X10_byteAt, mv_X10_byteAt, TX10, rfl⟩
theorem vm_X10_insert : zVm M_X10_insert 3 10 := ⟨md_X10_insert, mi_X10_insert, mv_X10_insert, TX10, rfl⟩
theorem vm_X10_delete : zVm M_X10_delete 2 10 := ⟨md_X10_delete, mi_X10_delete, mv_X10_delete, TX10, rfl⟩
theorem vm_X10_overwrite : zVm M_X10_overwrite 2 10 := ⟨md_X10_overwrite, mi_X10_overwrite, mv_X10_overwrite, TX10, rfl⟩
theorem vm_X10_copy : zVm M_X10_copy 2 10 := ⟨md_X10_copy, mi_X10_copy, mv_X10_copy, TX10, rfl⟩
theorem vm_X10_paste : zVm M_X10_paste 1 10 := ⟨md_X10_paste, mi_X10_paste, mv_X10_paste, TX10, rfl⟩
theorem vm_X10_pasteOver : zVm M_X10_pasteOver 1 10 := ⟨md_X10_pasteOver, mi_X10_pasteOver, mv_X10_pasteOver, TX10, rfl⟩
theorem vm_X10_lay : zVm M_X10_lay 3 10 := ⟨md_X10_lay, mi_X10_lay, mv_X10_lay, TX10, rfl⟩
theorem vm_X10_remove : zVm M_X10_remove 1 10 := ⟨md_X10_remove, mi_X10_remove, mv_X10_remove, TX10, rfl⟩
theorem vm_X10_overlay : zVm M_X10_overlay 2 10 := ⟨md_X10_overlay, mi_X10_overlay, mv_X10_overlay, TX10, rfl⟩
theorem vm_X10_field : zVm M_X10_field 3 10 := ⟨md_X10_field, mi_X10_field, mv_X10_field, TX10, rfl⟩
theorem vm_X10_value : zVm M_X10_value 2 10 := ⟨md_X10_value, mi_X10_value, mv_X10_value, TX10, rfl⟩
theorem vm_X10_path : zVm M_X10_path 3 10 := ⟨md_X10_path, mi_X10_path, mv_X10_path, TX10, rfl⟩
theorem vm_X10_fieldAt : zVm M_X10_fieldAt 2 10 := ⟨md_X10_fieldAt, mi_X10_fieldAt, mv_X10_fieldAt, TX10, rfl⟩
theorem vm_X10_counterpart : zVm M_X10_counterpart 3 10 := ⟨md_X10_counterpart, mi_X10_counterpart, mv_X10_counterpart, TX10, rfl⟩
theorem vm_X10_setField : zVm M_X10_setField 3 10 := ⟨md_X10_setField, mi_X10_setField, mv_X10_setField, TX10, rfl⟩
theorem vm_X10_follow : zVm M_X10_follow 1 10 := ⟨md_X10_follow, mi_X10_follow, mv_X10_follow, TX10, rfl⟩
theorem vm_X10_refresh : zVm M_X10_refresh 0 10 := ⟨md_X10_refresh, mi_X10_refresh, mv_X10_refresh, TX10, rfl⟩
theorem vm_X10_expected : zVm M_X10_expected 2 10 := ⟨md_X10_expected, mi_X10_expected, mv_X10_expected, TX10, rfl⟩
theorem vm_X10_repair : zVm M_X10_repair 2 10 := ⟨md_X10_repair, mi_X10_repair, mv_X10_repair, TX10, rfl⟩
theorem vm_X10_undo : zVm M_X10_undo 0 10 := ⟨md_X10_undo, mi_X10_undo, mv_X10_undo, TX10, rfl⟩
theorem vm_X10_redo : zVm M_X10_redo 0 10 := ⟨md_X10_redo, mi_X10_redo, mv_X10_redo, TX10, rfl⟩
theorem vm_X10_mark : zVm M_X10_mark 0 10 := ⟨md_X10_mark, mi_X10_mark, mv_X10_mark, TX10, rfl⟩
theorem vm_X10_difference : zVm M_X10_difference 1 10 := ⟨md_X10_difference, mi_X10_difference, mv_X10_difference, TX10, rfl⟩
theorem vm_X10_distance : zVm M_X10_distance 0 10 := ⟨md_X10_distance, mi_X10_distance, mv_X10_distance, TX10, rfl⟩
theorem vm_X10_count : zVm M_X10_count 1 10 := ⟨md_X10_count, mi_X10_count, mv_X10_count, TX10, rfl⟩
theorem vm_X10_digest : zVm M_X10_digest 0 10 := ⟨md_X10_digest, mi_X10_digest, mv_X10_digest, TX10, rfl⟩
theorem vm_X10_endChange : zVm M_X10_endChange 1 10 := ⟨md_X10_endChange, mi_X10_endChange, mv_X10_endChange, TX10, rfl⟩
theorem vm_X10_updateRound : zVm M_X10_updateRound 0 10 := ⟨md_X10_updateRound, mi_X10_updateRound, mv_X10_updateRound, TX10, rfl⟩
theorem vm_X10_updateWrongFields : zVm M_X10_updateWrongFields 0 10 := ⟨md_X10_updateWrongFields, mi_X10_updateWrongFields, mv_X10_updateWrongFields, TX10, rfl⟩
theorem vm_X10_layOut : zVm M_X10_layOut 1 10 := ⟨md_X10_layOut, mi_X10_layOut, mv_X10_layOut, TX10, rfl⟩
theorem vm_X10_layOutField : zVm M_X10_layOutField 2 10 := ⟨md_X10_layOutField, mi_X10_layOutField, mv_X10_layOutField, TX10, rfl⟩
theorem vm_X10_fieldsOf : zVm M_X10_fieldsOf 1 10 := ⟨md_X10_fieldsOf, mi_X10_fieldsOf, mv_X10_fieldsOf, TX10, rfl⟩
theorem vm_X10_overlayProperty : zVm M_X10_overlayProperty 2 10 := ⟨md_X10_overlayProperty, mi_X10_overlayProperty, mv_X10_overlayProperty, TX10, rfl⟩
theorem vm_X10_wrongFields : zVm M_X10_wrongFields 0 10 := ⟨md_X10_wrongFields, mi_X10_wrongFields, mv_X10_wrongFields, TX10, rfl⟩
theorem vm_X10_wrongFieldsOfAll : zVm M_X10_wrongFieldsOfAll 0 10 := ⟨md_X10_wrongFieldsOfAll, mi_X10_wrongFieldsOfAll, mv_X10_wrongFieldsOfAll, TX10, rfl⟩
theorem vm_X10_numberOf : zVm M_X10_numberOf 1 10 := ⟨md_X10_numberOf, mi_X10_numberOf, mv_X10_numberOf, TX10, rfl⟩
theorem vm_X10_nextDistances : zVm M_X10_nextDistances 2 10 := ⟨md_X10_nextDistances, mi_X10_nextDistances, mv_X10_nextDistances, TX10, rfl⟩
theorem vm_X10_mixOverlay : zVm M_X10_mixOverlay 2 10 := ⟨md_X10_mixOverlay, mi_X10_mixOverlay, mv_X10_mixOverlay, TX10, rfl⟩
theorem vm_X10_mixField : zVm M_X10_mixField 2 10 := ⟨md_X10_mixField, mi_X10_mixField, mv_X10_mixField, TX10, rfl⟩
theorem vm_X11_size : zVm M_X11_size 0 11 := ⟨md_X11_size, mi_X11_size, mv_X11_size, TX11, rfl⟩
theorem vm_X11_isPresent : zVm M_X11_isPresent 1 11 := ⟨md_X11_isPresent, mi_X11_isPresent, mv_X11_isPresent, TX11, rfl⟩
theorem vm_X11_templateOf : zVm M_X11_templateOf 1 11 := ⟨md_X11_templateOf, mi_X11_templateOf, mv_X11_templateOf, TX11, rfl⟩
theorem vm_X11_offsetOf : zVm M_X11_offsetOf 1 11 := ⟨md_X11_offsetOf, mi_X11_offsetOf, mv_X11_offsetOf, TX11, rfl⟩
theorem vm_X11_moves : zVm M_X11_moves 2 11 := ⟨md_X11_moves, mi_X11_moves, mv_X11_moves, TX11, rfl⟩
theorem vm_X11_type : zVm M_X11_type 1 11 := ⟨md_X11_type, mi_X11_type, mv_X11_type, TX11, rfl⟩
theorem vm_X11_clearText : zVm M_X11_clearText 0 11 := ⟨md_X11_clearText, mi_X11_clearText, mv_X11_clearText, TX11, rfl⟩
theorem vm_X11_next : zVm M_X11_next 0 11 := ⟨md_X11_next, mi_X11_next, mv_X11_next, TX11, rfl⟩
theorem vm_X11_blanks : zVm M_X11_blanks 0 11 := ⟨md_X11_blanks, mi_X11_blanks, mv_X11_blanks, TX11, rfl⟩
theorem vm_X11_faults : zVm M_X11_faults 1 11 := ⟨md_X11_faults, mi_X11_faults, mv_X11_faults, TX11, rfl⟩
theorem vm_X11_takes : zVm M_X11_takes 1 11 := ⟨md_X11_takes, mi_X11_takes, mv_X11_takes, TX11, rfl⟩
theorem vm_X11_expects : zVm M_X11_expects 1 11 := ⟨md_X11_expects, mi_X11_expects, mv_X11_expects, TX11, rfl⟩
theorem vm_X11_number : zVm M_X11_number 0 11 := ⟨md_X11_number, mi_X11_number, mv_X11_number, TX11, rfl⟩
theorem vm_X11_blanksBehindNumber : zVm M_X11_blanksBehindNumber 0 11 := ⟨md_X11_blanksBehindNumber, mi_X11_blanksBehindNumber, mv_X11_blanksBehindNumber, TX11, rfl⟩
theorem vm_X11_name : zVm M_X11_name 0 11 := ⟨md_X11_name, mi_X11_name, mv_X11_name, TX11, rfl⟩
theorem vm_X11_of : zVm M_X11_of 3 11 := ⟨md_X11_of, mi_X11_of, mv_X11_of, TX11, rfl⟩
theorem vm_X11_readOf : zVm M_X11_readOf 2 11 := ⟨md_X11_readOf, mi_X11_readOf, mv_X11_readOf, TX11, rfl⟩
theorem vm_X11_writes : zVm M_X11_writes 3 11 := ⟨md_X11_writes, mi_X11_writes, mv_X11_writes, TX11, rfl⟩
theorem vm_X11_inBlock : zVm M_X11_inBlock 3 11 := ⟨md_X11_inBlock, mi_X11_inBlock, mv_X11_inBlock, TX11, rfl⟩
theorem vm_X11_named : zVm M_X11_named 2 11 := ⟨md_X11_named, mi_X11_named, mv_X11_named, TX11, rfl⟩
theorem vm_X11_integerNamed : zVm M_X11_integerNamed 1 11 := ⟨md_X11_integerNamed, mi_X11_integerNamed, mv_X11_integerNamed, TX11, rfl⟩
theorem vm_X11_readsCount : zVm M_X11_readsCount 1 11 := ⟨md_X11_readsCount, mi_X11_readsCount, mv_X11_readsCount, TX11, rfl⟩
theorem vm_X11_siblingNamed : zVm M_X11_siblingNamed 1 11 := ⟨md_X11_siblingNamed, mi_X11_siblingNamed, mv_X11_siblingNamed, TX11, rfl⟩
theorem vm_X11_readsCheck : zVm M_X11_readsCheck 2 11 := ⟨md_X11_readsCheck, mi_X11_readsCheck, mv_X11_readsCheck, TX11, rfl⟩
theorem vm_X11_readsInteger : zVm M_X11_readsInteger 1 11 := ⟨md_X11_readsInteger, mi_X11_readsInteger, mv_X11_readsInteger, TX11, rfl⟩
theorem vm_X11_readsType : zVm M_X11_readsType 1 11 := ⟨md_X11_readsType, mi_X11_readsType, mv_X11_readsType, TX11, rfl⟩
theorem vm_X11_readsItem : zVm M_X11_readsItem 0 11 := ⟨md_X11_readsItem, mi_X11_readsItem, mv_X11_readsItem, TX11, rfl⟩
theorem vm_X11_readsNamed : zVm M_X11_readsNamed 1 11 := ⟨md_X11_readsNamed, mi_X11_readsNamed, mv_X11_readsNamed, TX11, rfl⟩
theorem vm_X11_closes : zVm M_X11_closes 0 11 := ⟨md_X11_closes, mi_X11_closes, mv_X11_closes, TX11, rfl⟩
theorem vm_X11_templateFault : zVm M_X11_templateFault 0 11 := ⟨md_X11_templateFault, mi_X11_templateFault, mv_X11_templateFault, TX11, rfl⟩
theorem vm_X11_define : zVm M_X11_define 1 11 := ⟨md_X11_define, mi_X11_define, mv_X11_define, TX11, rfl⟩
theorem vm_X11_items : zVm M_X11_items 1 11 := ⟨md_X11_items, mi_X11_items, mv_X11_items, TX11, rfl⟩
theorem vm_X11_patternFault : zVm M_X11_patternFault 0 11 := ⟨md_X11_patternFault, mi_X11_patternFault, mv_X11_patternFault, TX11, rfl⟩
theorem vm_X11_matchesAt : zVm M_X11_matchesAt 1 11 := ⟨md_X11_matchesAt, mi_X11_matchesAt, mv_X11_matchesAt, TX11, rfl⟩
theorem vm_X11_find : zVm M_X11_find 1 11 := ⟨md_X11_find, mi_X11_find, mv_X11_find, TX11, rfl⟩
theorem vm_X11_matches : zVm M_X11_matches 0 11 := ⟨md_X11_matches, mi_X11_matches, mv_X11_matches, TX11, rfl⟩
theorem vm_X11_read : zVm M_X11_read 4 11 := ⟨md_X11_read, mi_X11_read, mv_X11_read, TX11, rfl⟩
theorem vm_X11_valueOf : zVm M_X11_valueOf 1 11 := ⟨md_X11_valueOf, mi_X11_valueOf, mv_X11_valueOf, TX11, rfl⟩
theorem vm_X11_lays : zVm M_X11_lays 3 11 := ⟨md_X11_lays, mi_X11_lays, mv_X11_lays, TX11, rfl⟩
theorem vm_X11_countOf : zVm M_X11_countOf 2 11 := ⟨md_X11_countOf, mi_X11_countOf, mv_X11_countOf, TX11, rfl⟩
theorem vm_X11_laysAll : zVm M_X11_laysAll 2 11 := ⟨md_X11_laysAll, mi_X11_laysAll, mv_X11_laysAll, TX11, rfl⟩
theorem vm_X11_aligns : zVm M_X11_aligns 2 11 := ⟨md_X11_aligns, mi_X11_aligns, mv_X11_aligns, TX11, rfl⟩
theorem vm_X11_enters : zVm M_X11_enters 2 11 := ⟨md_X11_enters, mi_X11_enters, mv_X11_enters, TX11, rfl⟩
theorem vm_X11_goesIn : zVm M_X11_goesIn 0 11 := ⟨md_X11_goesIn, mi_X11_goesIn, mv_X11_goesIn, TX11, rfl⟩
theorem vm_X11_passes : zVm M_X11_passes 3 11 := ⟨md_X11_passes, mi_X11_passes, mv_X11_passes, TX11, rfl⟩
theorem vm_X11_laysOut : zVm M_X11_laysOut 1 11 := ⟨md_X11_laysOut, mi_X11_laysOut, mv_X11_laysOut, TX11, rfl⟩
theorem vm_X11_expectedOf : zVm M_X11_expectedOf 1 11 := ⟨md_X11_expectedOf, mi_X11_expectedOf, mv_X11_expectedOf, TX11, rfl⟩
theorem vm_X11_isWrong : zVm M_X11_isWrong 1 11 := ⟨md_X11_isWrong, mi_X11_isWrong, mv_X11_isWrong, TX11, rfl⟩
theorem vm_X11_wrongs : zVm M_X11_wrongs 0 11 := ⟨md_X11_wrongs, mi_X11_wrongs, mv_X11_wrongs, TX11, rfl⟩
theorem vm_X11_puts : zVm M_X11_puts 2 11 := ⟨md_X11_puts, mi_X11_puts, mv_X11_puts, TX11, rfl⟩
theorem vm_X11_rounds : zVm M_X11_rounds 0 11 := ⟨md_X11_rounds, mi_X11_rounds, mv_X11_rounds, TX11, rfl⟩
theorem vm_X11_updates : zVm M_X11_updates 0 11 := ⟨md_X11_updates, mi_X11_updates, mv_X11_updates, TX11, rfl⟩
theorem vm_X11_keeps : zVm M_X11_keeps 0 11 := ⟨md_X11_keeps, mi_X11_keeps, mv_X11_keeps, TX11, rfl⟩
theorem vm_X11_stays : zVm M_X11_stays 1 11 := ⟨md_X11_stays, mi_X11_stays, mv_X11_stays, TX11, rfl⟩
theorem vm_X11_length : zVm M_X11_length 0 11 := ⟨md_X11_length, mi_X11_length, mv_X11_length, TX11, rfl⟩
theorem vm_X11_byteAt : zVm M_X11_byteAt 1 11 := ⟨md_X11_byteAt, mi_X11_byteAt, mv_X11_byteAt, TX11, rfl⟩
theorem vm_X11_opens : zVm M_X11_opens 2 11 := ⟨md_X11_opens, mi_X11_opens, mv_X11_opens, TX11, rfl⟩
theorem vm_X11_insert : zVm M_X11_insert 3 11 := ⟨md_X11_insert, mi_X11_insert, mv_X11_insert, TX11, rfl⟩
theorem vm_X11_delete : zVm M_X11_delete 2 11 := ⟨md_X11_delete, mi_X11_delete, mv_X11_delete, TX11, rfl⟩
theorem vm_X11_overwrite : zVm M_X11_overwrite 2 11 := ⟨md_X11_overwrite, mi_X11_overwrite, mv_X11_overwrite, TX11, rfl⟩
theorem vm_X11_copy : zVm M_X11_copy 2 11 := ⟨md_X11_copy, mi_X11_copy, mv_X11_copy, TX11, rfl⟩
theorem vm_X11_paste : zVm M_X11_paste 1 11 := ⟨md_X11_paste, mi_X11_paste, mv_X11_paste, TX11, rfl⟩
theorem vm_X11_pasteOver : zVm M_X11_pasteOver 1 11 := ⟨md_X11_pasteOver, mi_X11_pasteOver, mv_X11_pasteOver, TX11, rfl⟩
theorem vm_X11_lay : zVm M_X11_lay 3 11 := ⟨md_X11_lay, mi_X11_lay, mv_X11_lay, TX11, rfl⟩
theorem vm_X11_remove : zVm M_X11_remove 1 11 := ⟨md_X11_remove, mi_X11_remove, mv_X11_remove, TX11, rfl⟩
theorem vm_X11_overlay : zVm M_X11_overlay 2 11 := ⟨md_X11_overlay, mi_X11_overlay, mv_X11_overlay, TX11, rfl⟩
theorem vm_X11_hasField : zVm M_X11_hasField 2 11 := ⟨md_X11_hasField, mi_X11_hasField, mv_X11_hasField, TX11, rfl⟩
theorem vm_X11_partOf : zVm M_X11_partOf 2 11 := ⟨md_X11_partOf, mi_X11_partOf, mv_X11_partOf, TX11, rfl⟩
theorem vm_X11_field : zVm M_X11_field 3 11 := ⟨md_X11_field, mi_X11_field, mv_X11_field, TX11, rfl⟩
theorem vm_X11_value : zVm M_X11_value 2 11 := ⟨md_X11_value, mi_X11_value, mv_X11_value, TX11, rfl⟩
theorem vm_X11_path : zVm M_X11_path 3 11 := ⟨md_X11_path, mi_X11_path, mv_X11_path, TX11, rfl⟩
theorem vm_X11_fieldAt : zVm M_X11_fieldAt 2 11 := ⟨md_X11_fieldAt, mi_X11_fieldAt, mv_X11_fieldAt, TX11, rfl⟩
theorem vm_X11_counterpart : zVm M_X11_counterpart 3 11 := ⟨md_X11_counterpart, mi_X11_counterpart, mv_X11_counterpart, TX11, rfl⟩
theorem vm_X11_fits : zVm M_X11_fits 2 11 := ⟨md_X11_fits, mi_X11_fits, mv_X11_fits, TX11, rfl⟩
theorem vm_X11_setField : zVm M_X11_setField 3 11 := ⟨md_X11_setField, mi_X11_setField, mv_X11_setField, TX11, rfl⟩
theorem vm_X11_follow : zVm M_X11_follow 1 11 := ⟨md_X11_follow, mi_X11_follow, mv_X11_follow, TX11, rfl⟩
theorem vm_X11_refresh : zVm M_X11_refresh 0 11 := ⟨md_X11_refresh, mi_X11_refresh, mv_X11_refresh, TX11, rfl⟩
theorem vm_X11_expected : zVm M_X11_expected 2 11 := ⟨md_X11_expected, mi_X11_expected, mv_X11_expected, TX11, rfl⟩
theorem vm_X11_repair : zVm M_X11_repair 2 11 := ⟨md_X11_repair, mi_X11_repair, mv_X11_repair, TX11, rfl⟩
theorem vm_X11_undo : zVm M_X11_undo 0 11 := ⟨md_X11_undo, mi_X11_undo, mv_X11_undo, TX11, rfl⟩
theorem vm_X11_redo : zVm M_X11_redo 0 11 := ⟨md_X11_redo, mi_X11_redo, mv_X11_redo, TX11, rfl⟩
theorem vm_X11_mark : zVm M_X11_mark 0 11 := ⟨md_X11_mark, mi_X11_mark, mv_X11_mark, TX11, rfl⟩
theorem vm_X11_difference : zVm M_X11_difference 1 11 := ⟨md_X11_difference, mi_X11_difference, mv_X11_difference, TX11, rfl⟩
theorem vm_X11_distance : zVm M_X11_distance 0 11 := ⟨md_X11_distance, mi_X11_distance, mv_X11_distance, TX11, rfl⟩
theorem vm_X11_present : zVm M_X11_present 0 11 := ⟨md_X11_present, mi_X11_present, mv_X11_present, TX11, rfl⟩
theorem vm_X11_allWrong : zVm M_X11_allWrong 0 11 := ⟨md_X11_allWrong, mi_X11_allWrong, mv_X11_allWrong, TX11, rfl⟩
theorem vm_X11_count : zVm M_X11_count 1 11 := ⟨md_X11_count, mi_X11_count, mv_X11_count, TX11, rfl⟩
theorem vm_X11_mixes : zVm M_X11_mixes 1 11 := ⟨md_X11_mixes, mi_X11_mixes, mv_X11_mixes, TX11, rfl⟩
theorem vm_X11_mixesOverlay : zVm M_X11_mixesOverlay 1 11 := ⟨md_X11_mixesOverlay, mi_X11_mixesOverlay, mv_X11_mixesOverlay, TX11, rfl⟩
theorem vm_X11_digest : zVm M_X11_digest 0 11 := ⟨md_X11_digest, mi_X11_digest, mv_X11_digest, TX11, rfl⟩
section NAMING
variable {G : zG} {R : Room} {Z : List Frame → Array Value → State → State → Prop} {X : Array Value → State → Prop} {M : zM} {n0 n pc : Nat} {ls : zLs} {st : List zV} {h : zHp}
theorem wq_topI {z : Int} (k : ∀ x : Int, x = z → wq G R Z X M n0 n pc ls (vI x :: st) h) : wq G R Z X M n0 n pc ls (vI z :: st) h := k z rfl
theorem wq_topL {z : Int} (k : ∀ x : Int, x = z → wq G R Z X M n0 n pc ls (vL x :: st) h) : wq G R Z X M n0 n pc ls (vL z :: st) h := k z rfl
theorem wq_topR {z : Nat} (k : ∀ x : Nat, x = z → wq G R Z X M n0 n pc ls (vR x :: st) h) : wq G R Z X M n0 n pc ls (vR z :: st) h := k z rfl
theorem wq_toph (k : ∀ h1 : zHp, h1 = h → wq G R Z X M n0 n pc ls st h1) : wq G R Z X M n0 n pc ls st h := k h rfl
theorem wq_st {st' : List zV} (e : st = st') (k : wq G R Z X M n0 n pc ls st' h) : wq G R Z X M n0 n pc ls st h := e ▸ k
theorem zSh_of {h h1 : zHp} (e : h1 = h) (hS : zSh h) : zSh h1 := e ▸ hS
theorem z_nm {P : Prop} (e : Int) (k : ∀ y : Int, y = e → P) : P := k e rfl
end NAMING
theorem zT_nz {a : Nat} {t : Nat × Nat} (h : zT 369 a = t) (h9 : t.1 ≠ 99) : a ≠ 0 := by have := (zT_at h h9).1; omega
theorem zlt_n {i : Int} {n : Nat} (h0 : 0 ≤ i) (h1 : i < n) : i.toNat < n := by omega
theorem zSh_put {h h1 : zHp} {a j r : Nat} (e : h1 = sR h a j r) (hS : zSh h) (h0 : zshp a j = 0) : zSh h1 := by
  subst e
  intro b k hb
  rw [gR_sR, if_neg, hS b k hb]
  rintro ⟨rfl, rfl⟩
  exact hb h0
theorem zshp_14 (k : Nat) : zshp 14 k = 0 := rfl
theorem zshp_80 (k : Nat) : zshp 80 k = 0 := rfl
theorem zSh_pu_14 {h h1 : zHp} {j r : Nat} (e : h1 = sR h 14 j r) (hS : zSh h) : zSh h1 := zSh_put e hS (zshp_14 j)
theorem zSh_pu_80 {h h1 : zHp} {j r : Nat} (e : h1 = sR h 80 j r) (hS : zSh h) : zSh h1 := zSh_put e hS (zshp_80 j)
theorem zlen_all : ∀ a, a < 370 → (zTAU a).2 ≤ 2556 := by decide +kernel
theorem zlen_le (a : Nat) : zlen a ≤ 2147483647 := by
  unfold zlen
  by_cases h : 369 < a
  · rw [zTAU_out h]; exact Nat.zero_le _
  · exact Nat.le_trans (zlen_all a (by omega)) (by omega)
theorem zrm_f {d : Nat} (h : 1 ≤ d) : 1 ≤ (zRm d 369 369).frames := h
theorem zrm_l {d : Nat} (h : 1 ≤ d) : 99 ≤ (zRm d 369 369).locals := by show 99 ≤ 100 * d; omega
