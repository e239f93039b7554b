/-! what holds of the pure layout at each step -/
/-- a laid field is in order -/
def fdOk (n : Int) (fd : List Int × List Int) : Prop := fSz (fd.1.getD 1 0) ∧ (0 ≤ fd.1.getD 0 0 ∧ fd.1.getD 0 0 + fd.1.getD 1 0 ≤ n) ∧
  (((fd.1.getD 2 0 = 0 ∨ fd.1.getD 2 0 = 1) ∧ (fd.1.getD 3 0 = 0 ∨ fd.1.getD 3 0 = 1)) ∨ (((fd.1.getD 2 0 = 2 ∧ fd.1.getD 1 0 = 1) ∨ ((fd.1.getD 2 0 = 3 ∨ fd.1.getD 2 0 = 4) ∧ fd.1.getD 1 0 = 2)) ∧ fd.1.getD 3 0 = 0 ∧ 0 ≤ fd.1.getD 4 0 ∧ fd.1.getD 4 0 ≤ fd.1.getD 5 0 ∧ fd.1.getD 5 0 ≤ fd.1.getD 0 0)) ∧
  (1 ≤ fd.1.getD 6 0 ∧ fd.1.getD 6 0 ≤ 4) ∧ (fd.2.length : Int) = fd.1.getD 6 0
def fsOk (bs : List Int) (s : zLyS) : Prop := (lF s).length ≤ 60 ∧ ∀ fd ∈ lF s, fdOk bs.length fd
def rgV (s : zLyS) (V : Nat → Prop) : Prop := (∀ r, V r → 0 ≤ lG s r ∧ lG s r ≤ lE s r ∧ lE s r ≤ lP s) ∧ ∀ r r', V r → V r' → r ≤ r' → lG s r ≤ lG s r'
def sOk (off : Int) (s : zLyS) : Prop := (0 ≤ lS s ∧ lS s ≤ 400) ∧ 0 ≤ off ∧ off ≤ lP s ∧ lP s ≤ 200 + 999 * lS s
def cInv (T : List (List Int)) (bs : List Int) (off : Int) (c : zLyC) : Prop := fsOk bs c.2.2 ∧ (lB c.2.2 = 0 → kAt T c.2.1 c.1 ∧ sOk off c.2.2 ∧ rgV c.2.2 (vis T c.1 c.2.1))
/-- what laying fields of item i needs -/
def itA (T : List (List Int)) (K : zLyK) (i : Nat) (s : zLyS) : Prop := fSz (ti T i 2) ∧ K.length ≤ 3 ∧
  (((ti T i 0 = 0 ∨ ti T i 0 = 1) ∧ (ti T i 3 = 0 ∨ ti T i 3 = 1)) ∨ (((ti T i 0 = 2 ∧ ti T i 2 = 1) ∨ ((ti T i 0 = 3 ∨ ti T i 0 = 4) ∧ ti T i 2 = 2)) ∧ ti T i 3 = 0 ∧ 0 ≤ ti T i 11 ∧ 0 ≤ ti T i 12 ∧ 0 ≤ lG s (ti T i 11).toNat ∧ lG s (ti T i 11).toNat ≤ lE s (ti T i 12).toNat ∧ lE s (ti T i 12).toNat ≤ lP s))
section PINV
variable {T : List (List Int)} {bs : List Int} {off : Int} {K : zLyK} {i : Nat}
theorem rgV_mono {s : zLyS} {V V' : Nat → Prop} (h : rgV s V) (hv : ∀ r, V' r → V r) : rgV s V' := ⟨fun r hr => h.1 r (hv r hr), fun r r' hr hr' => h.2 r r' (hv r hr) (hv r' hr')⟩
theorem rgV_of {s s' : zLyS} {V : Nat → Prop} (h : rgV s V) (e1 : lG s' = lG s) (e2 : lE s' = lE s) (e3 : lP s ≤ lP s') : rgV s' V := by
  refine ⟨fun r hr => ?_, fun r r' hr hr' => ?_⟩
  · obtain ⟨a, b, c⟩ := h.1 r hr
    rw [e1, e2]
    exact ⟨a, b, by omega⟩
  · rw [e1]; exact h.2 r r' hr hr'
theorem rgV_setE {s : zLyS} {V : Nat → Prop} (h : rgV s V) : rgV (lSetE s i) V := by
  refine ⟨fun r hr => ?_, h.2⟩
  obtain ⟨a, b, c⟩ := h.1 r hr
  show 0 ≤ lG s r ∧ lG s r ≤ upF (lE s) i (lP s) r ∧ upF (lE s) i (lP s) r ≤ lP s
  unfold upF
  split
  · exact ⟨a, by omega, by omega⟩
  · exact ⟨a, b, c⟩
theorem rgV_come {s : zLyS} (h : rgV s (vis T i K)) (h0 : 0 ≤ lP s) : rgV (lCome i s) (fun r => vis T i K r ∨ r = i) := by
  have e1 : lG (lCome i s) = upF (lG s) i (lP s) := rfl
  have e2 : lE (lCome i s) = upF (lE s) i (lP s) := rfl
  have e3 : lP (lCome i s) = lP s := rfl
  refine ⟨fun r hr => ?_, fun r r' hr hr' q => ?_⟩
  · rw [e1, e2, e3]
    unfold upF
    by_cases w : r = i
    · rw [if_pos w, if_pos w]; omega
    · rw [if_neg w, if_neg w]
      exact h.1 r (by rcases hr with z | z; exact z; exact absurd z w)
  · rw [e1]
    unfold upF
    by_cases w : r = i
    · by_cases w' : r' = i
      · rw [if_pos w, if_pos w']; exact Int.le_refl _
      · rcases hr' with z | z
        · have := z.1; omega
        · exact absurd z w'
    · have vr : vis T i K r := by rcases hr with z | z; exact z; exact absurd z w
      by_cases w' : r' = i
      · rw [if_neg w, if_pos w']
        have := h.1 r vr
        omega
      · rw [if_neg w, if_neg w']
        exact h.2 r r' vr (by rcases hr' with z | z; exact z; exact absurd z w') q
theorem fdOk_new {r : Int} {s : zLyS} (ha : itA T K i s) (h0 : 0 ≤ lP s) (h1 : lP s + ti T i 2 ≤ bs.length) : fdOk bs.length (lFd T K i r s) := by
  obtain ⟨a1, a2, a3⟩ := ha
  have hl : ((kPath T K ++ [1000 * r + ti T i 1]).length : Int) = (K.length : Int) + 1 := by simp [kPath]
  refine ⟨a1, ⟨h0, h1⟩, ?_, ⟨?_, ?_⟩, hl⟩
  · rcases a3 with q | ⟨q1, q2, q3, q4, q5, q6, q7⟩
    · exact Or.inl q
    · refine Or.inr ⟨q1, q2, ?_⟩
      show 0 ≤ (if ti T i 11 = -1 then -1009 else lG s (ti T i 11).toNat) ∧ (if ti T i 11 = -1 then -1009 else lG s (ti T i 11).toNat) ≤ (if ti T i 12 = -1 then -1009 else lE s (ti T i 12).toNat) ∧ (if ti T i 12 = -1 then -1009 else lE s (ti T i 12).toNat) ≤ lP s
      rw [if_neg (by omega), if_neg (by omega)]
      exact ⟨q5, q6, q7⟩
  · show (1 : Int) ≤ (K.length : Int) + 1
    omega
  · show (K.length : Int) + 1 ≤ 4
    omega
theorem lOne_ok2 {r : Int} {s : zLyS} (ha : itA T K i s) (hf : fsOk bs s) (h0 : 0 ≤ lP s) : fsOk bs (lOne T bs K i r s) ∧ lP s ≤ lP (lOne T bs K i r s) ∧ (lP (lOne T bs K i r s) = lP s ∨ lP (lOne T bs K i r s) ≤ bs.length) := by
  have sz : 1 ≤ ti T i 2 := by rcases ha.1 with e | e | e <;> omega
  unfold lOne
  by_cases c1 : (lF s).length = 60
  · rw [if_pos c1]; exact ⟨hf, Int.le_refl _, Or.inl rfl⟩
  · rw [if_neg c1]
    by_cases c2 : (bs.length : Int) < lP s + ti T i 2
    · rw [if_pos c2]; exact ⟨hf, Int.le_refl _, Or.inl rfl⟩
    · rw [if_neg c2]
      refine ⟨⟨?_, fun fd hfd => ?_⟩, ?_, Or.inr ?_⟩
      · show (lF s ++ [lFd T K i r s]).length ≤ 60
        have := hf.1
        rw [List.length_append]
        show (lF s).length + 1 ≤ 60
        omega
      · have hm : fd ∈ lF s ++ [lFd T K i r s] := hfd
        rcases List.mem_append.mp hm with q | q
        · exact hf.2 fd q
        · rw [List.mem_singleton.mp q]
          exact fdOk_new ha h0 (by omega)
      · show lP s ≤ lP s + ti T i 2
        omega
      · show lP s + ti T i 2 ≤ bs.length
        omega
theorem itA_up {s s' : zLyS} (ha : itA T K i s) (e1 : lG s' = lG s) (e2 : lE s' = lE s) (e3 : lP s ≤ lP s') : itA T K i s' := by
  obtain ⟨a1, a2, a3⟩ := ha
  refine ⟨a1, a2, ?_⟩
  rcases a3 with q | ⟨q1, q2, q3, q4, q5, q6, q7⟩
  · exact Or.inl q
  · refine Or.inr ⟨q1, q2, q3, q4, ?_⟩
    rw [e1, e2]
    exact ⟨q5, q6, by omega⟩
theorem lRep_ok2 : ∀ (n : Nat) (r : Int) (s : zLyS), itA T K i s → fsOk bs s → 0 ≤ lP s → fsOk bs (lRep T bs K i n r s) ∧ lP s ≤ lP (lRep T bs K i n r s) ∧ (lP (lRep T bs K i n r s) = lP s ∨ lP (lRep T bs K i n r s) ≤ bs.length)
  | 0, _, s, _, hf, _ => ⟨hf, Int.le_refl _, Or.inl rfl⟩
  | n + 1, r, s, ha, hf, h0 => by
    rw [lRep]
    split
    · obtain ⟨a, b, c⟩ := lOne_ok2 (r := r) ha hf h0
      obtain ⟨w1, w2, w3, w4⟩ := lOne_keep (T := T) (bs := bs) (K := K) (i := i) (r := r) (s := s)
      obtain ⟨a', b', c'⟩ := lRep_ok2 n (r + 1) (lOne T bs K i r s) (itA_up ha w2 w3 b) a (by omega)
      refine ⟨a', by omega, ?_⟩
      rcases c' with z | z
      · rw [z]; exact c
      · exact Or.inr z
    · exact ⟨hf, Int.le_refl _, Or.inl rfl⟩
theorem lAll_vis {s : zLyS} : lF (lAll T bs K i s) = lF (lRep T bs K i (tCnt T (lW s) i).toNat 0 s) ∧ lP (lAll T bs K i s) = lP (lRep T bs K i (tCnt T (lW s) i).toNat 0 s) ∧ lB (lAll T bs K i s) = lB (lRep T bs K i (tCnt T (lW s) i).toNat 0 s) := by
  unfold lAll
  split
  · exact ⟨rfl, rfl, rfl⟩
  · exact ⟨rfl, rfl, rfl⟩
theorem lAll_ok2 {s : zLyS} (ha : itA T K i s) (hf : fsOk bs s) (h0 : 0 ≤ lP s) : fsOk bs (lAll T bs K i s) ∧ lP s ≤ lP (lAll T bs K i s) ∧ (lP (lAll T bs K i s) = lP s ∨ lP (lAll T bs K i s) ≤ bs.length) := by
  obtain ⟨e1, e2, e3⟩ := lAll_vis (T := T) (bs := bs) (K := K) (i := i) (s := s)
  obtain ⟨a, b, c⟩ := lRep_ok2 (bs := bs) (tCnt T (lW s) i).toNat 0 s ha hf h0
  unfold fsOk
  rw [e1, e2]
  exact ⟨a, b, c⟩
theorem itA_of (ok : tOk T) (hi : i < T.length) (h : kIn T K i) (hk : ti T i 0 ≤ 4) {s : zLyS} (hr : rgV s (fun r => vis T i K r ∨ r = i)) : itA T K i s := by
  obtain ⟨⟨⟨_, k0, k7⟩, _, a1, a2, a3, a4, _⟩, ⟨_, _, _, _, b1, _⟩, _⟩ := ok.2.2 i hi
  have hl := (kIn_len ok hi h).1
  by_cases c : ti T i 0 ≤ 1
  · exact ⟨(a1 c).1, hl, Or.inl ⟨by omega, (a1 c).2⟩⟩
  · obtain ⟨r1, r2, r3, r4, r5⟩ := b1 (by omega)
    have v1 : vis T i K (ti T i 11).toNat := vis_sib h (by omega) r4
    have v2 : vis T i K (ti T i 12).toNat := vis_sib h (by omega) r5
    have g1 := hr.1 _ (Or.inl v1)
    have g2 := hr.1 _ (Or.inl v2)
    have g3 := hr.2 _ _ (Or.inl v1) (Or.inl v2) (by omega)
    have e3 := a2 (by omega)
    by_cases c2 : ti T i 0 = 2
    · exact ⟨Or.inl (a3 c2), hl, Or.inr ⟨Or.inl ⟨c2, a3 c2⟩, e3, by omega, by omega, by omega, by omega, by omega⟩⟩
    · have s2 := a4 (by omega)
      exact ⟨Or.inr (Or.inl s2), hl, Or.inr ⟨Or.inr ⟨by omega, s2⟩, e3, by omega, by omega, by omega, by omega, by omega⟩⟩
theorem lTick_vis (s : zLyS) : lF (lTick s) = lF s ∧ lP (lTick s) = lP s ∧ lG (lTick s) = lG s ∧ lE (lTick s) = lE s ∧ lW (lTick s) = lW s := by
  unfold lTick
  split <;> exact ⟨rfl, rfl, rfl, rfl, rfl⟩
theorem lTick_ok {s : zLyS} (h : sOk off s) (hb : lB (lTick s) = 0) (h0 : lB s = 0) : sOk off (lTick s) := by
  obtain ⟨⟨a, b⟩, c, d, e⟩ := h
  obtain ⟨v1, v2, v3, v4, v5⟩ := lTick_vis s
  rcases lTick_cases s with ⟨q1, q2⟩ | ⟨q1, q2, q3⟩
  · rw [q2] at hb
    exact absurd hb (by show ¬ (3 : Int) = 0; omega)
  · unfold sOk
    rw [q2, v2]
    omega
theorem tCnt_rng (ok : tOk T) (hi : i < T.length) {W : Nat → Int} : 0 ≤ tCnt T W i ∧ tCnt T W i ≤ 999 := by
  obtain ⟨_, ⟨_, b, _⟩, _⟩ := ok.2.2 i hi
  unfold tCnt
  rcases b with ⟨q, _⟩ | ⟨q, _, z⟩
  · rw [if_pos q]; omega
  · rw [if_neg (by omega)]
    split
    · rcases z with ⟨z1, z2, z3⟩ | ⟨z1, z2⟩
      · exact ⟨z2, z3⟩
      · omega
    · exact clamp_rng _
theorem cInv_go (ok : tOk T) (hbs : bs.length ≤ 200) (hi : i < T.length) (h : kIn T K i) {s : zLyS} (hf : fsOk bs s) (h1 : 0 ≤ lS s ∧ lS s ≤ 400) (o0 : 0 ≤ off) (o1 : off ≤ lP s) (hp : lP s + 999 ≤ 200 + 999 * lS s) (hr : rgV s (fun r => vis T i K r ∨ r = i)) (hb : lB s = 0) : cInv T bs off (lGo T bs off i K s) := by
  obtain ⟨nx, nv⟩ := kAt_next ok hi h
  obtain ⟨⟨⟨_, k0, k7⟩, _⟩, ⟨_, _, c2, c3, _⟩, _⟩ := ok.2.2 i hi
  unfold lGo
  split
  · exact ⟨hf, fun _ => ⟨nx, ⟨h1, o0, o1, by show lP s ≤ 200 + 999 * lS s; omega⟩, rgV_mono hr nv⟩⟩
  · split
    · rename_i q5
      split
      · exact ⟨hf, fun _ => ⟨nx, ⟨h1, o0, o1, by show lP s ≤ 200 + 999 * lS s; omega⟩, rgV_mono hr nv⟩⟩
      · rename_i qc
        have cr := tCnt_rng ok hi (W := lW s)
        obtain ⟨kx, kv⟩ := kAt_in ok hi q5 h (c := tCnt T (lW s) i) (u := 0) (by omega)
        obtain ⟨v1, v2, v3, v4, v5⟩ := lTick_vis s
        refine ⟨?_, fun hb' => ⟨kx, lTick_ok ⟨h1, o0, o1, by omega⟩ hb' hb, rgV_mono (rgV_of hr v3 v4 (by rw [v2]; exact Int.le_refl _)) kv⟩⟩
        show fsOk bs (lTick s)
        unfold fsOk
        rw [v1]
        exact hf
    · rename_i q5
      split
      · rename_i q6
        have := c2 (by omega)
        refine ⟨hf, fun _ => ⟨nx, ⟨h1, o0, ?_, ?_⟩, rgV_mono (rgV_setE (rgV_of hr rfl rfl ?_)) nv⟩⟩
        · show off ≤ lP s + ti T i 10
          omega
        · show lP s + ti T i 10 ≤ 200 + 999 * lS s
          omega
        · show lP s ≤ lP s + ti T i 10
          omega
      · rename_i q6
        split
        · rename_i q7
          have w1 := c2 (by omega)
          have w2 := c3 q7
          have ar := alP_rng (p := lP s) (o := off) (n := ti T i 10) (by omega)
          refine ⟨hf, fun _ => ⟨nx, ⟨h1, o0, ?_, ?_⟩, rgV_mono (rgV_setE (rgV_of hr rfl rfl ?_)) nv⟩⟩
          · show off ≤ alP (lP s) off (ti T i 10)
            omega
          · show alP (lP s) off (ti T i 10) ≤ 200 + 999 * lS s
            omega
          · show lP s ≤ alP (lP s) off (ti T i 10)
            omega
        · rename_i q7
          have ia := itA_of ok hi h (by omega) hr
          obtain ⟨a, b, c⟩ := lAll_ok2 ia hf (by omega)
          obtain ⟨e1, e2, e3, e4⟩ := lAll_keep (T := T) (bs := bs) (K := K) (i := i) (s := s)
          refine ⟨a, fun _ => ⟨nx, ⟨?_, o0, ?_, ?_⟩, rgV_mono (rgV_setE (rgV_of hr e1 e2 b)) nv⟩⟩
          · show 0 ≤ lS (lAll T bs K i s) ∧ lS (lAll T bs K i s) ≤ 400
            rw [e3]; exact h1
          · show off ≤ lP (lAll T bs K i s)
            omega
          · show lP (lAll T bs K i s) ≤ 200 + 999 * lS (lAll T bs K i s)
            rw [e3]
            rcases c with z | z <;> omega
theorem cInv_pass (ok : tOk T) (hbs : bs.length ≤ 200) (hi : i < T.length) (h : kIn T K i) {s : zLyS} (hf : fsOk bs s) (hs : sOk off s) (hr : rgV s (vis T i K)) (hb : lB s = 0) : cInv T bs off (lPass T bs off i K s) := by
  obtain ⟨⟨a, b⟩, c, d, e⟩ := hs
  unfold lPass
  split
  · exact ⟨hf, fun q => absurd q (by show ¬ (3 : Int) = 0; omega)⟩
  · rename_i q
    obtain ⟨v1, v2, v3, v4, v5⟩ := lTick_vis s
    rcases lTick_cases s with ⟨q1, q2⟩ | ⟨q1, q2, q3⟩
    · omega
    · have e1 : lF (lCome i (lTick s)) = lF s := v1
      have e2 : lP (lCome i (lTick s)) = lP s := v2
      have e3 : lS (lCome i (lTick s)) = lS s + 1 := q2
      have e4 : lB (lCome i (lTick s)) = 0 := by rw [← hb, ← q3]; rfl
      refine cInv_go ok hbs hi h ?_ (by omega) c (by omega) (by omega) (rgV_come (rgV_of hr v3 v4 (by omega)) (by omega)) e4
      unfold fsOk
      rw [e1]
      exact hf
theorem cInv_step (ok : tOk T) (hbs : bs.length ≤ 200) {c : zLyC} (h : cInv T bs off c) (hh : ¬ lHalt T c) : cInv T bs off (lStep T bs off c) := by
  obtain ⟨i, K, s⟩ := c
  obtain ⟨hf, hn⟩ := h
  have hb : lB s = 0 := by
    by_cases q : lB s = 0
    · exact q
    · exact absurd (Or.inl q) hh
  obtain ⟨ka, hs, hr⟩ := hn hb
  cases K with
  | nil =>
    have hi : i < T.length := by
      by_cases q : T.length ≤ i
      · exact absurd (Or.inr ⟨rfl, q⟩) hh
      · omega
    rw [lStep, if_neg (fun q => hh (by
      rcases q with q | q
      · exact Or.inl q
      · exact Or.inr ⟨rfl, q⟩))]
    exact cInv_pass (K := []) ok hbs hi (show kIn T [] i from ka.2 hi) hf hs hr hb
  | cons e K =>
    obtain ⟨t, c, u⟩ := e
    rw [lStep, if_neg (fun q => hh (Or.inl q))]
    split
    · rename_i q
      split
      · rename_i q2
        obtain ⟨kx, kv⟩ := kAt_turn ok ka q2
        obtain ⟨v1, v2, v3, v4, v5⟩ := lTick_vis (lSetE s t)
        refine ⟨?_, fun hb' => ⟨kx, lTick_ok hs hb' hb, rgV_mono (rgV_of (rgV_setE hr) v3 v4 (by rw [v2]; exact Int.le_refl _)) kv⟩⟩
        show fsOk bs (lTick (lSetE s t))
        unfold fsOk
        rw [v1]
        exact hf
      · obtain ⟨kx, kv⟩ := kAt_leave ok ka q
        exact ⟨hf, fun _ => ⟨kx, hs, rgV_mono (rgV_setE hr) kv⟩⟩
    · rename_i q
      obtain ⟨hi, ki⟩ := kAt_pass ok ka q
      exact cInv_pass ok hbs hi ki hf hs hr hb
theorem cInv_it (ok : tOk T) (hbs : bs.length ≤ 200) : ∀ (n : Nat) (c : zLyC), cInv T bs off c → cInv T bs off (lIt T bs off n c)
  | 0, _, h => h
  | n + 1, c, h => by
    rw [lIt]
    by_cases q : lHalt T c
    · rw [lStep_halt q]; exact cInv_it ok hbs n c h
    · exact cInv_it ok hbs n _ (cInv_step ok hbs h q)
theorem cInv_start (ok : tOk T) (o0 : 0 ≤ off) (o1 : off ≤ 200) : cInv T bs off (0, ([], lStart off)) := by
  refine ⟨⟨by show 0 ≤ 60; omega, fun fd h => absurd h (by show ¬ fd ∈ []; simp)⟩, fun _ => ⟨⟨Nat.zero_le _, ok.2.1⟩, ⟨by show (0 : Int) ≤ 0 ∧ (0 : Int) ≤ 400; omega, o0, by show off ≤ off; omega, by show off ≤ 200 + 999 * 0; omega⟩, ⟨fun r hr => absurd hr.1 (by omega), fun r r' hr => absurd hr.1 (by omega)⟩⟩⟩
/-- the fields of a layout are in order -/
theorem layT_ok (ok : tOk T) (hbs : bs.length ≤ 200) (o0 : 0 ≤ off) (o1 : off ≤ 200) : (layT T bs off).1.length ≤ 60 ∧ ∀ fd ∈ (layT T bs off).1, fdOk bs.length fd := by
  have key : ∀ c : zLyC, cInv T bs off c → (lVis c.2.2).1.length ≤ 60 ∧ ∀ fd ∈ (lVis c.2.2).1, fdOk bs.length fd := fun c h => h.1
  unfold layT
  exact key _ (cInv_it ok hbs 2006 _ (cInv_start ok o0 o1))
end PINV
