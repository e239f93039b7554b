/-! reading a template: the parts of an item, by the program -/
def xI2 (G : zG) (d : Nat) (Q : Option zV → zHp → Prop) (p1 : Nat) (h5 : zHp) : Prop := ((-2147483648 ≤ (gI h5 211 3) - 48 ∧ (gI h5 211 3) - 48 ≤ 2147483647) ∧ (∀ h9 : zHp, h9 = sI h5 p1 2 ((gI h5 211 3) - 48) → ((-2147483648 ≤ (gI h9 211 2) + 1 ∧ (gI h9 211 2) + 1 ≤ 2147483647) ∧ (wpN G (d - 1) M_X9_moveTo 0 (zar 0 [vR 211, vI ((gI h9 211 2) + 1)]) [] h9 (qV (fun h12 => zSh h12 ∧ (((gI h12 211 3) ≠ 60 → (∀ h16 : zHp, h16 = sI h12 p1 3 0 → (((gI h16 p1 3) = 0 → Q (some (vI 1)) h16) ∧ ((gI h16 p1 3) ≠ 0 → ((-2147483648 ≤ (gI h16 211 2) + 1 ∧ (gI h16 211 2) + 1 ≤ 2147483647) ∧ (wpN G (d - 1) M_X9_moveTo 0 (zar 0 [vR 211, vI ((gI h16 211 2) + 1)]) [] h16 (qV (fun h20 => zSh h20 ∧ Q (some (vI 1)) h20)))))))) ∧ ((gI h12 211 3) = 60 → (∀ h23 : zHp, h23 = sI h12 p1 3 1 → (((gI h23 p1 3) = 0 → Q (some (vI 1)) h23) ∧ ((gI h23 p1 3) ≠ 0 → ((-2147483648 ≤ (gI h23 211 2) + 1 ∧ (gI h23 211 2) + 1 ≤ 2147483647) ∧ (wpN G (d - 1) M_X9_moveTo 0 (zar 0 [vR 211, vI ((gI h23 211 2) + 1)]) [] h23 (qV (fun h27 => zSh h27 ∧ Q (some (vI 1)) h27)))))))))))))))
def xI1 (G : zG) (d : Nat) (Q : Option zV → zHp → Prop) (p1 : Nat) (h2 : zHp) : Prop := ((-2147483648 ≤ (gI h2 211 2) + 1 ∧ (gI h2 211 2) + 1 ≤ 2147483647) ∧ (wpN G (d - 1) M_X9_moveTo 0 (zar 0 [vR 211, vI ((gI h2 211 2) + 1)]) [] h2 (qV (fun h5 => zSh h5 ∧ (((gI h5 211 3) = 49 → ((-2147483648 ≤ (gI h5 211 3) - 48 ∧ (gI h5 211 3) - 48 ≤ 2147483647) ∧ (∀ h9 : zHp, h9 = sI h5 p1 2 ((gI h5 211 3) - 48) → ((-2147483648 ≤ (gI h9 211 2) + 1 ∧ (gI h9 211 2) + 1 ≤ 2147483647) ∧ (wpN G (d - 1) M_X9_moveTo 0 (zar 0 [vR 211, vI ((gI h9 211 2) + 1)]) [] h9 (qV (fun h12 => zSh h12 ∧ (((gI h12 211 3) ≠ 60 → (∀ h16 : zHp, h16 = sI h12 p1 3 0 → (((gI h16 p1 3) = 0 → Q (some (vI 1)) h16) ∧ ((gI h16 p1 3) ≠ 0 → ((-2147483648 ≤ (gI h16 211 2) + 1 ∧ (gI h16 211 2) + 1 ≤ 2147483647) ∧ (wpN G (d - 1) M_X9_moveTo 0 (zar 0 [vR 211, vI ((gI h16 211 2) + 1)]) [] h16 (qV (fun h20 => zSh h20 ∧ Q (some (vI 1)) h20)))))))) ∧ ((gI h12 211 3) = 60 → (∀ h23 : zHp, h23 = sI h12 p1 3 1 → (((gI h23 p1 3) = 0 → Q (some (vI 1)) h23) ∧ ((gI h23 p1 3) ≠ 0 → ((-2147483648 ≤ (gI h23 211 2) + 1 ∧ (gI h23 211 2) + 1 ≤ 2147483647) ∧ (wpN G (d - 1) M_X9_moveTo 0 (zar 0 [vR 211, vI ((gI h23 211 2) + 1)]) [] h23 (qV (fun h27 => zSh h27 ∧ Q (some (vI 1)) h27)))))))))))))))) ∧ ((gI h5 211 3) ≠ 49 → (((gI h5 211 3) = 50 → ((-2147483648 ≤ (gI h5 211 3) - 48 ∧ (gI h5 211 3) - 48 ≤ 2147483647) ∧ (∀ h31 : zHp, h31 = sI h5 p1 2 ((gI h5 211 3) - 48) → ((-2147483648 ≤ (gI h31 211 2) + 1 ∧ (gI h31 211 2) + 1 ≤ 2147483647) ∧ (wpN G (d - 1) M_X9_moveTo 0 (zar 0 [vR 211, vI ((gI h31 211 2) + 1)]) [] h31 (qV (fun h34 => zSh h34 ∧ (((gI h34 211 3) ≠ 60 → (∀ h38 : zHp, h38 = sI h34 p1 3 0 → (((gI h38 p1 3) = 0 → Q (some (vI 1)) h38) ∧ ((gI h38 p1 3) ≠ 0 → ((-2147483648 ≤ (gI h38 211 2) + 1 ∧ (gI h38 211 2) + 1 ≤ 2147483647) ∧ (wpN G (d - 1) M_X9_moveTo 0 (zar 0 [vR 211, vI ((gI h38 211 2) + 1)]) [] h38 (qV (fun h42 => zSh h42 ∧ Q (some (vI 1)) h42)))))))) ∧ ((gI h34 211 3) = 60 → (∀ h45 : zHp, h45 = sI h34 p1 3 1 → (((gI h45 p1 3) = 0 → Q (some (vI 1)) h45) ∧ ((gI h45 p1 3) ≠ 0 → ((-2147483648 ≤ (gI h45 211 2) + 1 ∧ (gI h45 211 2) + 1 ≤ 2147483647) ∧ (wpN G (d - 1) M_X9_moveTo 0 (zar 0 [vR 211, vI ((gI h45 211 2) + 1)]) [] h45 (qV (fun h49 => zSh h49 ∧ Q (some (vI 1)) h49)))))))))))))))) ∧ ((gI h5 211 3) ≠ 50 → (((gI h5 211 3) = 52 → ((-2147483648 ≤ (gI h5 211 3) - 48 ∧ (gI h5 211 3) - 48 ≤ 2147483647) ∧ (∀ h53 : zHp, h53 = sI h5 p1 2 ((gI h5 211 3) - 48) → ((-2147483648 ≤ (gI h53 211 2) + 1 ∧ (gI h53 211 2) + 1 ≤ 2147483647) ∧ (wpN G (d - 1) M_X9_moveTo 0 (zar 0 [vR 211, vI ((gI h53 211 2) + 1)]) [] h53 (qV (fun h56 => zSh h56 ∧ (((gI h56 211 3) ≠ 60 → (∀ h60 : zHp, h60 = sI h56 p1 3 0 → (((gI h60 p1 3) = 0 → Q (some (vI 1)) h60) ∧ ((gI h60 p1 3) ≠ 0 → ((-2147483648 ≤ (gI h60 211 2) + 1 ∧ (gI h60 211 2) + 1 ≤ 2147483647) ∧ (wpN G (d - 1) M_X9_moveTo 0 (zar 0 [vR 211, vI ((gI h60 211 2) + 1)]) [] h60 (qV (fun h64 => zSh h64 ∧ Q (some (vI 1)) h64)))))))) ∧ ((gI h56 211 3) = 60 → (∀ h67 : zHp, h67 = sI h56 p1 3 1 → (((gI h67 p1 3) = 0 → Q (some (vI 1)) h67) ∧ ((gI h67 p1 3) ≠ 0 → ((-2147483648 ≤ (gI h67 211 2) + 1 ∧ (gI h67 211 2) + 1 ≤ 2147483647) ∧ (wpN G (d - 1) M_X9_moveTo 0 (zar 0 [vR 211, vI ((gI h67 211 2) + 1)]) [] h67 (qV (fun h71 => zSh h71 ∧ Q (some (vI 1)) h71)))))))))))))))) ∧ ((gI h5 211 3) ≠ 52 → (wpN G (d - 1) M_X9_refuse 0 (zar 0 [vR 211, vI (gI h5 211 2)]) [] h5 (qI (fun z74 h75 => zSh h75 ∧ ((z74 = 0 ∨ z74 = 1) ∧ Q (some (vI z74)) h75))))))))))))))
def pIx (h : zHp) (a : Nat) (t : List Int) (T : List (List Int)) (i : Nat) (q : Int) : Prop := zT 369 a = (108, 2) ∧ gR h 211 1 = a ∧ pTx h t ∧ (∀ k, k < i → ∀ f, f < 13 → gI h (a + 2 + k) f = ti T k f) ∧ gI h (a + 2 + i) 4 = q ∧ (i : Int) < gI h a 1 ∧ i < 24
def pRw (a i : Nat) (S : Nat → Prop) : Nat → Nat → Prop := fun b j => p34 b j ∨ (b = a + 2 + i ∧ S j)
section XPI
variable {G : zG} {d : Nat} {Q : Option zV → zHp → Prop} {h : zHp} {t : List Int} {T : List (List Int)} {a i : Nat} {q : Int}
theorem pIx_F {h' : zHp} {S : Nat → Prop} (x : pIx h a t T i q) (F : zF4 (pRw a i S) h h') (hS : ¬ S 4) : pIx h' a t T i q := by
  obtain ⟨x1, x2, x3, x4, x5, x6, x7⟩ := x
  have la := ztmp x1
  refine ⟨x1, by rw [F.2, x2], pTx_F F (fun j w => ?_) (fun j w => ?_) x3, fun k hk f hf => ?_, ?_, ?_, x7⟩
  · rcases w with ⟨w, _⟩ | ⟨w, _⟩ <;> omega
  · rcases w with ⟨w, _⟩ | ⟨w, _⟩ <;> omega
  · rw [F.I _ _ (by rintro (⟨w, _⟩ | ⟨w, _⟩) <;> omega), x4 k hk f hf]
  · rw [F.I _ _ (by
      rintro (⟨w, _⟩ | ⟨w, w2⟩)
      · omega
      · exact hS w2), x5]
  · rw [F.I _ _ (by rintro (⟨w, _⟩ | ⟨w, _⟩) <;> omega)]; exact x6
theorem Frw {h' : zHp} {S : Nat → Prop} (F : zF4 p34 h h') : zF4 (pRw a i S) h h' := F.mono (fun _ _ w => Or.inl w)
theorem pIx_34 {h' : zHp} (x : pIx h a t T i q) (F : zF4 p34 h h') : pIx h' a t T i q := pIx_F (S := fun _ => False) x (Frw F) (fun w => w)
theorem Fs {S : Nat → Prop} {j : Nat} {z : Int} (hj : S j) : zF4 (pRw a i S) h (sI h (a + 2 + i) j z) := zF4.sI (Or.inr ⟨rfl, hj⟩)
theorem pRw_n {h' : zHp} {S : Nat → Prop} (x : zT 369 a = (108, 2)) (hi : i < 24) (F : zF4 (pRw a i S) h h') : (∀ j, ¬ S j → gI h' (a + 2 + i) j = gI h (a + 2 + i) j) := fun j hj => F.I _ _ (by
  have la := ztmp x
  rintro (⟨w, _⟩ | ⟨_, w⟩)
  · omega
  · exact hj w)
theorem tSb_rng {c : Int} : ∀ n : Nat, -1 ≤ tSb T q n c ∧ tSb T q n c < n
  | 0 => ⟨by rw [tSb]; omega, by rw [tSb]; omega⟩
  | n + 1 => by
    have := tSb_rng (c := c) n
    rw [tSb]
    split <;> omega
theorem tLk_rng {c : Int} : ∀ (n : Nat) (q : Int), -1 ≤ tLk T n q c ∧ tLk T n q c < n
  | 0, q => ⟨by rw [tLk]; omega, by rw [tLk]; omega⟩
  | n + 1, q => by
    have h1 := tLk_rng (c := c) n q
    have h2 := tLk_rng (c := c) n (ti T n 4)
    rw [tLk]
    split
    · omega
    · split <;> omega
theorem sp_sibling {c : Int} (hS : zSh h) (x : pIx h a t T i q) (k : Q (some (vI (tSb T q i c))) h) : wpN G d M_X8_sibling 0 (zar 0 [vR a, vI (i : Int), vI c]) [] h Q := by
  obtain ⟨x1, x2, x3, x4, x5, x6, x7⟩ := x
  have loop : ∀ n : Nat, n ≤ i → tSb T q n c = tSb T q i c → wpN G d M_X8_sibling 18 [(0, vR a), (1, vI (i : Int)), (2, vI c), (3, vI ((n : Int) - 1))] [] h Q := by
    intro n
    induction n with
    | zero =>
      intro hn e
      rw [tSb] at e
      rw [← e] at k
      exact vc_X8_sibling_18 a x1 i c _ h hS (Nat.zero_le _) (fun _ _ _ _ _ => False) (fun _ _ _ _ _ w => w.elim) ⟨fun _ => k, fun c => by omega⟩
    | succ n ih =>
      intro hn e
      have en : (((n + 1 : Nat) : Int) - 1).toNat = n := by omega
      refine vc_X8_sibling_18 a x1 i c _ h hS (Nat.zero_le _) (fun y0 y1 y2 y3 g => y0 = a ∧ y1 = (i : Int) ∧ y2 = c ∧ y3 = (n : Int) - 1 ∧ g = h ∧ ¬ (ti T n 4 = q ∧ ti T n 1 = c)) ?_ ⟨fun c => by omega, fun _ => ?_⟩
      · rintro _ _ _ _ _ ⟨z0, z1, z2, z3, z4, z5⟩
        rw [z0, z1, z2, z3, z4]
        rw [tSb, if_neg z5] at e
        exact ih (by omega) e
      · rw [en, show (i : Int).toNat = i by omega, x4 n (by omega) 4 (by omega), x4 n (by omega) 1 (by omega), x5]
        refine ⟨⟨by omega, by omega⟩, ⟨by omega, by omega⟩, fun c4 => ⟨by omega, fun x3 e3 _ => ⟨rfl, rfl, rfl, by omega, rfl, fun w => c4 w.1⟩⟩, fun c4 => ⟨⟨by omega, by omega⟩, fun c1 => ⟨by omega, fun x6 e6 _ => ⟨rfl, rfl, rfl, by omega, rfl, fun w => c1 w.2⟩⟩, fun c1 => ?_⟩⟩
        rw [tSb, if_pos ⟨c4, c1⟩] at e
        rw [← e] at k
        rw [show ((n + 1 : Nat) : Int) - 1 = (n : Int) by omega]
        exact k
  refine vc_X8_sibling_0 a x1 i c h hS (Nat.zero_le _) (fun y0 y1 y2 y3 g => y0 = a ∧ y1 = (i : Int) ∧ y2 = c ∧ y3 = (i : Int) - 1 ∧ g = h) ?_ ⟨fun c => by omega, fun _ => ⟨fun c => ⟨by omega, fun x3 e3 _ => ⟨rfl, rfl, rfl, e3, rfl⟩⟩, fun c => by omega⟩⟩
  rintro _ _ _ _ _ ⟨z0, z1, z2, z3, z4⟩
  rw [z0, z1, z2, z3, z4]
  exact loop i (Nat.le_refl _) rfl
theorem sp_lookUp {c : Int} (hS : zSh h) (x : pIx h a t T i q) (k : Q (some (vI (tLk T i q c))) h) : wpN G d M_X8_lookUp 0 (zar 0 [vR a, vI (i : Int), vI c]) [] h Q := by
  obtain ⟨x1, x2, x3, x4, x5, x6, x7⟩ := x
  have loop : ∀ (n : Nat) (r : Int), n ≤ i → tLk T n r c = tLk T i q c → wpN G d M_X8_lookUp 29 [(0, vR a), (1, vI (i : Int)), (2, vI c), (3, vI r), (4, vI ((n : Int) - 1))] [] h Q := by
    intro n
    induction n with
    | zero =>
      intro r hn e
      rw [tLk] at e
      rw [← e] at k
      exact vc_X8_lookUp_29 a x1 i c r _ h hS (Nat.zero_le _) (fun _ _ _ _ _ _ => False) (fun _ _ _ _ _ _ w => w.elim) ⟨fun _ => k, fun c => by omega⟩
    | succ n ih =>
      intro r hn e
      have en : (((n + 1 : Nat) : Int) - 1).toNat = n := by omega
      have en2 : ((n + 1 : Nat) : Int) - 1 = (n : Int) := by omega
      refine vc_X8_lookUp_29 a x1 i c r _ h hS (Nat.zero_le _) (fun y0 y1 y2 y3 y4 g => y0 = a ∧ y1 = (i : Int) ∧ y2 = c ∧ y4 = (n : Int) - 1 ∧ g = h ∧ tLk T n y3 c = tLk T i q c) ?_ ⟨fun c => by omega, fun _ => ?_⟩
      · rintro _ _ _ _ _ _ ⟨z0, z1, z2, z3, z4, z5⟩
        rw [z0, z1, z2, z3, z4]
        exact ih _ (by omega) z5
      · rw [en, x4 n (by omega) 4 (by omega), x4 n (by omega) 1 (by omega), en2]
        rw [tLk] at e
        refine ⟨fun ne => ?_, fun eq => ⟨⟨by omega, by omega⟩, fun x9 e9 => ⟨by omega, fun x11 e11 _ => ⟨rfl, rfl, rfl, by omega, rfl, ?_⟩⟩⟩⟩
        · rw [if_neg ne] at e
          refine ⟨⟨by omega, by omega⟩, fun c4 => ⟨by omega, fun x3 e3 _ => ⟨rfl, rfl, rfl, by omega, rfl, ?_⟩⟩, fun c4 => ⟨⟨by omega, by omega⟩, fun c1 => ⟨by omega, fun x6 e6 _ => ⟨rfl, rfl, rfl, by omega, rfl, ?_⟩⟩, fun c1 => ?_⟩⟩
          · rw [if_neg (fun w => c4 w.1)] at e; exact e
          · rw [if_neg (fun w => c1 w.2)] at e; exact e
          · rw [if_pos ⟨c4, c1⟩] at e
            rw [← e] at k
            exact k
        · rw [if_pos eq] at e
          rw [e9]
          exact e
  refine vc_X8_lookUp_0 a x1 i c h hS (Nat.zero_le _) (fun y0 y1 y2 y3 y4 g => y0 = a ∧ y1 = (i : Int) ∧ y2 = c ∧ y3 = q ∧ y4 = (i : Int) - 1 ∧ g = h) ?_ ⟨fun c => by omega, fun _ => ⟨fun c => ⟨⟨by omega, by omega⟩, fun x3 e3 => ⟨by omega, fun x5' e5' _ => ⟨rfl, rfl, rfl, ?_, e5', rfl⟩⟩⟩, fun c => by omega⟩⟩
  · rintro _ _ _ _ _ _ ⟨z0, z1, z2, z3, z4, z5⟩
    rw [z0, z1, z2, z3, z4, z5]
    exact loop i q (Nat.le_refl _) rfl
  · rw [e3, show (i : Int).toNat = i by omega, x5]
theorem sp_parseRef {p : Nat} (hd : 2 ≤ d) (hS : zSh h) (x : pIx h a t T i q) (ha : pAt h t p)
    (k1 : ∀ h' y, pRf t T q i p = .inr y → zSh h' → zF4 p34 h h' → gI h' 211 4 = gI h 211 4 → pAt h' t y.1 → 0 ≤ y.2 → Q (some (vI y.2)) h')
    (k0 : ∀ h' f, pRf t T q i p = .inl f → zSh h' → zF4 p34 h h' → gI h' 211 4 = (f : Int) → Q (some (vI (-1))) h') : wpN G d M_X9_parseReference 0 (zar 0 [vR 211, vI (i : Int)]) [] h Q := by
  obtain ⟨a1, a2, a3⟩ := ha
  have l := pTx_len x.2.2.1
  have hi24 := x.2.2.2.2.2.2
  have rg := tLk_rng (T := T) (c := tg t p) i q
  refine vc_X9_parseReference_0 i h hS hd ?_
  rw [a3]
  refine sp_isName hS (fun r hr => qI_i ⟨hS, fun z => ?_, fun z => ?_⟩)
  · rw [a2]
    refine sp_refuse hS (fun h' s' F e4 => qI_i ⟨s', k0 h' p ?_ s' F e4⟩)
    unfold pRf
    rw [if_neg]
    rintro ⟨w, _⟩
    rcases hr with ⟨w2, _⟩ | ⟨_, w2⟩
    · omega
    · rw [w2] at w; cases w
  · have nm : isNmB (tg t p) = true := by
      rcases hr with ⟨_, w⟩ | ⟨w, _⟩
      · exact w
      · exact absurd w z
    rw [x.2.1, a3]
    refine ⟨x.1, ?_⟩
    refine sp_lookUp hS x (qI_i ⟨hS, fun z2 => ?_, fun z2 => ?_⟩)
    · rw [a2]
      refine sp_refuse hS (fun h' s' F e4 => qI_i ⟨s', k0 h' p ?_ s' F e4⟩)
      unfold pRf
      rw [if_neg]
      rintro ⟨_, w, _⟩
      omega
    · rw [x.2.1]
      have t0 := x.2.2.2.1 (tLk T i q (tg t p)).toNat (by omega) 0 (by omega)
      have t8 := x.2.2.2.1 (tLk T i q (tg t p)).toNat (by omega) 8 (by omega)
      refine ⟨x.1, ⟨by omega, by omega⟩, vc_X5_isPlainInteger_0 _ (zitm x.1 (by omega)) h hS (Nat.zero_le _) ?_⟩
      rw [t0, t8]
      have bad : ¬ tPl T (tLk T i q (tg t p)).toNat → wpN G (d - 1) M_X9_refuse 0 (zar 0 [vR 211, vI (gI h 211 2)]) [] h (qI (fun z29 h30 => zSh h30 ∧ Q (some (vI (-1))) h30)) := fun np => by
        rw [a2]
        refine sp_refuse hS (fun h' s' F e4 => qI_i ⟨s', k0 h' p ?_ s' F e4⟩)
        unfold pRf
        rw [if_neg]
        rintro ⟨_, _, w⟩
        exact np (tPlB_iff.mp w)
      have good : tPl T (tLk T i q (tg t p)).toNat → wpN G (d - 1) M_X9_moveTo 0 (zar 0 [vR 211, vI ((gI h 211 2) + 1)]) [] h (qV (fun h26 => zSh h26 ∧ Q (some (vI (tLk T i q (tg t p)))) h26)) := fun pl => by
        have c97 := (isNmB_iff.mp nm).1
        refine sp_moveOn (p := p) (by omega) hS x.2.2.1 (tg_lt (by omega)) (by rw [a2]) (fun h' s' F pa => qV_i ⟨s', ?_⟩)
        exact k1 h' (bl t (p + 1), tLk T i q (tg t p)) (by unfold pRf; rw [if_pos ⟨nm, by omega, tPlB_iff.mpr pl⟩]) s' (F34 F).1 (F34 F).2 pa (by show 0 ≤ tLk T i q (tg t p); omega)
      exact ⟨fun c => ⟨fun c2 => qI_i ⟨hS, fun w => absurd rfl w, fun _ => bad (fun w => c2 w.2)⟩, fun c2 => qI_i ⟨hS, fun _ => ⟨by omega, good ⟨Or.inl c, c2⟩⟩, fun w => absurd w (by omega)⟩⟩, fun c => ⟨fun c2 => qI_i ⟨hS, fun w => absurd rfl w, fun _ => bad (fun w => by rcases w.1 with z | z; exact c z; exact c2 z)⟩, fun c2 => ⟨fun c3 => qI_i ⟨hS, fun w => absurd rfl w, fun _ => bad (fun w => c3 w.2)⟩, fun c3 => qI_i ⟨hS, fun _ => ⟨by omega, good ⟨Or.inr c2, c3⟩⟩, fun w => absurd w (by omega)⟩⟩⟩⟩
theorem sp_parseSib {p : Nat} {least : Int} (hd : 2 ≤ d) (hS : zSh h) (x : pIx h a t T i q) (ha : pAt h t p) (hl : 0 ≤ least)
    (k1 : ∀ h' y, pSb t T q i least p = .inr y → zSh h' → zF4 p34 h h' → gI h' 211 4 = gI h 211 4 → pAt h' t y.1 → 0 ≤ y.2 → Q (some (vI y.2)) h')
    (k0 : ∀ h' f, pSb t T q i least p = .inl f → zSh h' → zF4 p34 h h' → gI h' 211 4 = (f : Int) → Q (some (vI (-1))) h') : wpN G d M_X9_parseSibling 0 (zar 0 [vR 211, vI (i : Int), vI least]) [] h Q := by
  obtain ⟨a1, a2, a3⟩ := ha
  have l := pTx_len x.2.2.1
  have rg := tSb_rng (T := T) (q := q) (c := tg t p) i
  refine vc_X9_parseSibling_0 i least h hS hd ?_
  rw [a3]
  refine sp_isName hS (fun r hr => qI_i ⟨hS, fun z => ⟨fun w => by omega, fun _ => ?_⟩, fun z => ?_⟩)
  · rw [a2]
    refine sp_refuse hS (fun h' s' F e4 => qI_i ⟨s', k0 h' p ?_ s' F e4⟩)
    unfold pSb
    rw [if_neg]
    rintro ⟨w, _⟩
    rcases hr with ⟨w2, _⟩ | ⟨_, w2⟩
    · omega
    · rw [w2] at w; cases w
  · have nm : isNmB (tg t p) = true := by
      rcases hr with ⟨_, w⟩ | ⟨w, _⟩
      · exact w
      · exact absurd w z
    have c97 := (isNmB_iff.mp nm).1
    rw [x.2.1, a3]
    refine ⟨x.1, sp_sibling hS x (qI_i ⟨hS, fun z2 => ⟨by omega, ?_⟩, fun z2 => ?_⟩)⟩
    · refine sp_moveOn (p := p) (by omega) hS x.2.2.1 (tg_lt (by omega)) (by rw [a2]) (fun h' s' F pa => qV_i ⟨s', ?_⟩)
      exact k1 h' (bl t (p + 1), tSb T q i (tg t p)) (by unfold pSb; rw [if_pos ⟨nm, by omega, z2⟩]) s' (F34 F).1 (F34 F).2 pa (by show 0 ≤ tSb T q i (tg t p); omega)
    · rw [a2]
      refine sp_refuse hS (fun h' s' F e4 => qI_i ⟨s', k0 h' p ?_ s' F e4⟩)
      unfold pSb
      rw [if_neg]
      rintro ⟨_, _, w⟩
      omega
theorem pB_inl {α β : Type} {x : Nat ⊕ α} {f : α → Nat ⊕ β} {e : Nat} (h : x = .inl e) : pB x f = .inl e := by rw [h]; rfl
theorem pB_inr {α β : Type} {x : Nat ⊕ α} {f : α → Nat ⊕ β} {y : α} (h : x = .inr y) : pB x f = f y := by rw [h]; rfl
def s810 : Nat → Prop := fun j => 8 ≤ j ∧ j ≤ 10
theorem sp_parseCount {p : Nat} (hd : 3 ≤ d) (hS : zSh h) (x : pIx h a t T i q) (ha : pAt h t p) (e8 : gI h (a + 2 + i) 8 = 0) (e9 : gI h (a + 2 + i) 9 = -1) (e10 : gI h (a + 2 + i) 10 = 0)
    (k1 : ∀ h' y, pCt t T q i p = .inr y → zSh h' → zF4 (pRw a i s810) h h' → gI h' 211 4 = gI h 211 4 → pAt h' t y.1 → gI h' (a + 2 + i) 8 = y.2.1 → gI h' (a + 2 + i) 9 = y.2.2.1 → gI h' (a + 2 + i) 10 = y.2.2.2 → Q (some (vI 1)) h')
    (k0 : ∀ h' f, pCt t T q i p = .inl f → zSh h' → zF4 (pRw a i s810) h h' → gI h' 211 4 = (f : Int) → Q (some (vI 0)) h') : wpN G d M_X9_parseCount 0 (zar 0 [vR 211, vI (i : Int)]) [] h Q := by
  have la := ztmp x.1
  have hi24 := x.2.2.2.2.2.2
  have l := pTx_len x.2.2.1
  have a1 := ha.1
  have a2 := ha.2.1
  have a3 := ha.2.2
  have ei : (i : Int).toNat = i := by omega
  refine vc_X9_parseCount_0 i h hS hd ?_
  rw [x.2.1, ei, a3]
  refine ⟨x.1, ⟨by omega, by omega⟩, fun c => ⟨by omega, ?_⟩, fun c => k1 h (p, (0, (-1, 0))) (by unfold pCt; rw [if_neg c]) hS zF4.rf rfl ha e8 e9 e10⟩
  refine sp_moveOn (p := p) (by omega) hS x.2.2.1 (tg_lt (by omega)) (by rw [a2]) (fun h3 s3 F3 pa3 => qV_i ⟨s3, ?_⟩)
  obtain ⟨G3, f3⟩ := F34 F3
  have x3 := pIx_34 x G3
  have n3 : ∀ b j, b ≠ 211 → gI h3 b j = gI h b j := fun b j w => G3.I _ _ (fun w2 => w w2.1)
  rw [pa3.2.2]
  refine sp_isName s3 (fun r hr => qI_i ⟨s3, fun z => ?_, fun z => ?_⟩)
  · have nm : isNmB (tg t (bl t (p + 1))) = false := by
      rcases hr with ⟨w, _⟩ | ⟨_, w⟩
      · omega
      · exact w
    have ec : pCt t T q i p = pB (pNu t (bl t (p + 1))) (fun x => .inr (x.1, (1, (-1, x.2)))) := by
      unfold pCt
      rw [if_pos c, if_neg (by rw [nm]; simp)]
    refine sp_parseNumber (by omega) s3 x3.2.2.1 pa3 (fun h12 y ey s12 F12 f12 pa12 => qI_i ⟨s12, fun h15 e15 h17 e17 => ?_⟩) (fun h12 f ey s12 F12 f12 => qI_i ⟨s12, fun h15 e15 h17 e17 => ?_⟩)
    · have ny := (pNu_ok ey).1
      have n12 : ∀ b j, b ≠ 211 → gI h12 b j = gI h b j := fun b j w => by rw [F12.I _ _ (fun w2 => w w2.1), n3 _ _ w]
      have F17 : zF4 (pRw a i s810) h h17 := by
        rw [e17, e15]
        exact (((Frw G3).tr (Frw F12)).tr (Fs (by unfold s810; omega))).tr (Fs (by unfold s810; omega))
      have v10 : gI h17 (a + 2 + i) 10 = y.2 := by rw [e17, gI_sI, if_neg (by omega), e15, gI_sI, if_pos ⟨rfl, rfl⟩]
      rw [v10]
      have o17 : ∀ b j, b ≠ a + 2 + i → gI h17 b j = gI h12 b j := fun b j w => by rw [e17, gI_sI, if_neg (fun w2 => w w2.1), e15, gI_sI, if_neg (fun w2 => w w2.1)]
      refine ⟨fun w => by omega, fun _ => k1 h17 (y.1, (1, (-1, y.2))) (by rw [ec, pB_inr ey]) (F17.Sh hS) F17 (by rw [o17 _ _ (by omega), f12, f3]) ⟨pa12.1, by rw [o17 _ _ (by omega)]; exact pa12.2.1, by rw [o17 _ _ (by omega)]; exact pa12.2.2⟩ ?_ ?_ v10⟩
      · rw [e17, gI_sI, if_pos ⟨rfl, rfl⟩]
      · rw [e17, gI_sI, if_neg (by omega), e15, gI_sI, if_neg (by omega), n12 _ _ (by omega), e9]
    · have F17 : zF4 (pRw a i s810) h h17 := by
        rw [e17, e15]
        exact (((Frw G3).tr (Frw F12)).tr (Fs (by unfold s810; omega))).tr (Fs (by unfold s810; omega))
      have v10 : gI h17 (a + 2 + i) 10 = -1 := by rw [e17, gI_sI, if_neg (by omega), e15, gI_sI, if_pos ⟨rfl, rfl⟩]
      rw [v10]
      refine ⟨fun _ => k0 h17 f (by rw [ec, pB_inl ey]) (F17.Sh hS) F17 ?_, fun w => absurd rfl w⟩
      rw [e17, gI_sI, if_neg (by omega), e15, gI_sI, if_neg (by omega), f12]
  · have nm : isNmB (tg t (bl t (p + 1))) = true := by
      rcases hr with ⟨_, w⟩ | ⟨w, _⟩
      · exact w
      · exact absurd w z
    have ec : pCt t T q i p = pB (pRf t T q i (bl t (p + 1))) (fun x => .inr (x.1, (1, (x.2, 0)))) := by
      unfold pCt
      rw [if_pos c, if_pos nm]
    refine sp_parseRef (by omega) s3 x3 pa3 (fun h12 y ey s12 F12 f12 pa12 ny => qI_i ⟨s12, fun h15 e15 h17 e17 => ?_⟩) (fun h12 f ey s12 F12 f12 => qI_i ⟨s12, fun h15 e15 h17 e17 => ?_⟩)
    · have n12 : ∀ b j, b ≠ 211 → gI h12 b j = gI h b j := fun b j w => by rw [F12.I _ _ (fun w2 => w w2.1), n3 _ _ w]
      have F17 : zF4 (pRw a i s810) h h17 := by
        rw [e17, e15]
        exact (((Frw G3).tr (Frw F12)).tr (Fs (by unfold s810; omega))).tr (Fs (by unfold s810; omega))
      have v9 : gI h17 (a + 2 + i) 9 = y.2 := by rw [e17, gI_sI, if_neg (by omega), e15, gI_sI, if_pos ⟨rfl, rfl⟩]
      rw [v9]
      have o17 : ∀ b j, b ≠ a + 2 + i → gI h17 b j = gI h12 b j := fun b j w => by rw [e17, gI_sI, if_neg (fun w2 => w w2.1), e15, gI_sI, if_neg (fun w2 => w w2.1)]
      refine ⟨fun w => by omega, fun _ => k1 h17 (y.1, (1, (y.2, 0))) (by rw [ec, pB_inr ey]) (F17.Sh hS) F17 (by rw [o17 _ _ (by omega), f12, f3]) ⟨pa12.1, by rw [o17 _ _ (by omega)]; exact pa12.2.1, by rw [o17 _ _ (by omega)]; exact pa12.2.2⟩ ?_ v9 ?_⟩
      · rw [e17, gI_sI, if_pos ⟨rfl, rfl⟩]
      · rw [e17, gI_sI, if_neg (by omega), e15, gI_sI, if_neg (by omega), n12 _ _ (by omega), e10]
    · have F17 : zF4 (pRw a i s810) h h17 := by
        rw [e17, e15]
        exact (((Frw G3).tr (Frw F12)).tr (Fs (by unfold s810; omega))).tr (Fs (by unfold s810; omega))
      have v9 : gI h17 (a + 2 + i) 9 = -1 := by rw [e17, gI_sI, if_neg (by omega), e15, gI_sI, if_pos ⟨rfl, rfl⟩]
      rw [v9]
      refine ⟨fun _ => k0 h17 f (by rw [ec, pB_inl ey]) (F17.Sh hS) F17 ?_, fun w => absurd rfl w⟩
      rw [e17, gI_sI, if_neg (by omega), e15, gI_sI, if_neg (by omega), f12]
end XPI
