/-! WHAT ANY RUN KEEPS: how many names are told stays within the table -/
def QB (B : Int) (h : xH) : Prop := h.1 = 331 ∧ h.2.1 = KK ∧ h.2.2.1 165 = 1600 ∧ h.2.2.2 158 18 = 165 ∧ 0 ≤ h.2.2.2 158 17 ∧ h.2.2.2 158 17 ≤ B
theorem QB_put {B : Int} {H : xH} {p k : Nat} {v : Int} (h : QB B H) (hp : ¬ (p = 158 ∧ (k = 17 ∨ k = 18))) : QB B (hput H p k v) := by
  obtain ⟨h1, h2, h3, h4, h5, h6⟩ := h
  have e : ∀ j, (j = 17 ∨ j = 18) → (hput H p k v).2.2.2 158 j = H.2.2.2 158 j := fun j hj => by
    show (if 158 = p then (if j = k then v else H.2.2.2 158 j) else H.2.2.2 158 j) = _
    by_cases z : 158 = p
    · rw [if_pos z, if_neg (by omega)]
    · rw [if_neg z]
  exact ⟨h1, h2, h3, (e 18 (by omega)).trans h4, by rw [e 17 (by omega)]; exact h5, by rw [e 17 (by omega)]; exact h6⟩
def OkR (Q : xH → Prop) (r : Option xR) : Prop := ∀ c v s, r = some (c, v, s) → Q s.2
section Okr
variable {Q : xH → Prop}
theorem ok_n : OkR Q none := fun _ _ _ e => by cases e
theorem ok_s {c : Nat} {v : List Int} {s : xS} (h : Q s.2) : OkR Q (some (c, v, s)) := fun _ _ _ e => by cases e; exact h
theorem ok_b {r : Option xR} {f : Int → xS → Option xR} (h1 : OkR Q r) (h2 : ∀ x s, Q s.2 → OkR Q (f x s)) : OkR Q (xb r f) := by
  intro c v s e
  unfold xb at e
  split at e
  · exact h2 _ _ (h1 _ _ _ rfl) c v s e
  · cases e
theorem ok_a {r : Option xR} {f : List Int → xS → Option xR} (h1 : OkR Q r) (h2 : ∀ x s, Q s.2 → OkR Q (f x s)) : OkR Q (xa r f) := by
  intro c v s e
  unfold xa at e
  split at e
  · exact h2 _ _ (h1 _ _ _ rfl) c v s e
  · cases e
theorem ok_q {r : Option xR} {f : xS → Option xR} (h1 : OkR Q r) (h2 : ∀ s, Q s.2 → OkR Q (f s)) : OkR Q (xq r f) := by
  intro c v s e
  unfold xq at e
  split at e
  · exact h2 _ (h1 _ _ _ rfl) c v s e
  · cases e; exact h1 _ _ _ rfl
  · cases e
theorem ok_l {c b u : xS → Option xR} (h1 : ∀ s, Q s.2 → OkR Q (c s)) (h2 : ∀ s, Q s.2 → OkR Q (b s)) (h3 : ∀ s, Q s.2 → OkR Q (u s)) : ∀ (n : Nat) (s : xS), Q s.2 → OkR Q (xloop c b u n s)
  | 0, s, h => ok_n
  | n + 1, s, h => by
    intro cc v s' e
    unfold xloop at e
    split at e
    · rename_i s1 e1
      have q1 := h1 s h _ _ _ e1
      split at e
      · rename_i s2 e2
        have q2 := h2 _ q1 _ _ _ e2
        split at e
        · rename_i s3 e3
          exact ok_l h1 h2 h3 n _ (h3 _ q2 _ _ _ e3) _ _ _ e
        · cases e
      · rename_i s2 e2
        have q2 := h2 _ q1 _ _ _ e2
        split at e
        · rename_i s3 e3
          exact ok_l h1 h2 h3 n _ (h3 _ q2 _ _ _ e3) _ _ _ e
        · cases e
      · rename_i s2 e2
        cases e
        exact h2 _ q1 _ _ _ e2
      · rename_i s2 e2
        cases e
        exact h2 _ q1 _ _ _ e2
      · cases e
    · rename_i s1 e1
      cases e
      exact h1 s h _ _ _ e1
    · cases e
theorem ok_d {b c : xS → Option xR} (h1 : ∀ s, Q s.2 → OkR Q (b s)) (h2 : ∀ s, Q s.2 → OkR Q (c s)) : ∀ (n : Nat) (s : xS), Q s.2 → OkR Q (xdo b c n s)
  | 0, s, h => ok_n
  | n + 1, s, h => by
    intro cc v s' e
    unfold xdo at e
    split at e
    · rename_i s1 e1
      have q1 := h1 s h _ _ _ e1
      split at e
      · rename_i s2 e2
        exact ok_d h1 h2 n _ (h2 _ q1 _ _ _ e2) _ _ _ e
      · rename_i s2 e2
        cases e
        exact h2 _ q1 _ _ _ e2
      · cases e
    · rename_i s1 e1
      have q1 := h1 s h _ _ _ e1
      split at e
      · rename_i s2 e2
        exact ok_d h1 h2 n _ (h2 _ q1 _ _ _ e2) _ _ _ e
      · rename_i s2 e2
        cases e
        exact h2 _ q1 _ _ _ e2
      · cases e
    · rename_i s1 e1
      cases e
      exact h1 s h _ _ _ e1
    · rename_i s1 e1
      cases e
      exact h1 s h _ _ _ e1
    · cases e
end Okr
/-- no write of the count, calls of these methods alone, nothing made -/
def chk (ok : Nat → Bool) : xT → Bool
  | .group (.tag k (.nest i (.append a (.append b c)))) _ => (k != 35 || decide (i.toNat < 10)) && chk ok a && chk ok b && chk ok c
  | .tag k (.nest i (.append a b)) => (k != 8 || ok i.toNat) && (k != 34 || (i.toNat != 11017 && i.toNat != 11018)) && (k != 54 || (i.toNat % 1000000 != 11017 && i.toNat % 1000000 != 11018)) && (k != 10 && k != 12 && k != 13 && k != 14 && k != 59 && k != 60) && chk ok a && chk ok b
  | _ => true
theorem xat_k {h : xH} {kd : Nat} {a i : Int} {p q : Nat} (e : xat h kd a i = some (p, q)) : h.2.1 p = kd := by
  unfold xat at e
  split at e
  · rename_i z
    cases e
    exact z.2.2.1
  · cases e
theorem xob_k {h : xH} {c : Nat} {a : Int} {p : Nat} (e : xob h c a = some p) : h.2.1 p = 10 + c := by
  unfold xob at e
  split at e
  · rename_i z
    cases e
    exact z.2.2
  · cases e
section EvOk
variable {ft : xF} {cl : Nat → List Int → xH → Option (List Int × xH)} {F S : Nat} {B : Int} {ok : Nat → Bool}
theorem QB_arr {h : xH} {kd : Nat} {a i : Int} {p q : Nat} {v : Int} (Q : QB B h) (e : xat h kd a i = some (p, q)) (hk : kd < 10) : QB B (hput h p q v) := QB_put Q (fun z => by
  have := xat_k e
  rw [Q.2.1, z.1] at this
  have h1 : KK 158 = 21 := rfl
  omega)
theorem QB_fld {h : xH} {c k : Nat} {a : Int} {p : Nat} {v : Int} (Q : QB B h) (e : xob h c a = some p) (hk : ¬ (c = 11 ∧ (k = 17 ∨ k = 18))) : QB B (hput h p k v) := QB_put Q (fun z => by
  have := xob_k e
  rw [Q.2.1, z.1] at this
  have h1 : KK 158 = 21 := rfl
  exact hk ⟨by omega, z.2⟩)
theorem ev_ok (hc : ∀ i vs h r h', ok i = true → QB B h → cl i vs h = some (r, h') → QB B h') : ∀ (t : xT), chk ok t = true → ∀ (g : Nat) (s : xS), QB B s.2 → OkR (QB B) (ev ft cl F S t g s)
  | .group (.tag k (.nest i (.append a (.append b c)))) _, ht, g, s, hs => by
    unfold chk at ht
    simp only [Bool.and_eq_true] at ht
    obtain ⟨⟨⟨h35, ha⟩, hb⟩, hcc⟩ := ht
    have ia := ev_ok hc a ha
    have ib := ev_ok hc b hb
    have ic := ev_ok hc c hcc
    unfold ev
    dsimp only
    split
    · refine ok_b (ia 0 s hs) fun x s1 q1 => ?_
      split
      · exact ib 0 s1 q1
      · exact ic 0 s1 q1
    · refine ok_b (ia 0 s hs) fun x s1 q1 => ok_b (ib 0 s1 q1) fun y s2 q2 => ok_b (ic 0 s2 q2) fun z s3 q3 => ?_
      split
      · rename_i e
        split
        · exact ok_s (QB_arr q3 e (by simpa using h35))
        · exact ok_n
      · exact ok_n
    · refine ok_b (ia 0 s hs) fun x s1 q1 => ?_
      split
      · exact ib 0 s1 q1
      · exact ic 0 s1 q1
    · refine ok_b (ia 0 s hs) fun x s1 q1 => ?_
      split
      · split
        · exact ok_n
        · exact ib 0 s1 q1
      · exact ic 0 s1 q1
    · refine ok_b (ia 0 s hs) fun x s1 q1 => ?_
      split
      · exact ib 0 s1 q1
      · split
        · exact ok_n
        · exact ic 0 s1 q1
    · exact ok_l (fun t q => ia 0 t q) (fun t q => ib 0 t q) (fun t q => ic 0 t q) F s hs
    · refine ok_b (ia 0 s hs) fun x s1 q1 => ?_
      split
      · rename_i e
        exact ok_s (ic _ s1 q1 _ _ _ e)
      · exact ic _ s1 q1
    · refine ok_b (ia 0 s hs) fun x s1 q1 => ok_b (ib 0 s1 q1) fun y s2 q2 => ?_
      split
      · refine ok_b (ic 0 s2 q2) fun z s3 q3 => ?_
        split
        · rename_i e1 _ _ _ _ e2 e3
          split
          · refine ok_s (QB_put q3 (fun z => ?_))
            have := xat_k e1
            rw [q2.2.1, z.1] at this
            have h1 : KK 158 = 21 := rfl
            omega
          · exact ok_n
        · exact ok_n
      · exact ok_n
    · exact ok_n
  | .tag k (.nest i (.append a b)), ht, g, s, hs => by
    unfold chk at ht
    simp only [Bool.and_eq_true] at ht
    obtain ⟨⟨⟨⟨⟨h8, h34⟩, h54⟩, hno⟩, ha⟩, hb⟩ := ht
    have ia := ev_ok hc a ha
    have ib := ev_ok hc b hb
    unfold ev
    dsimp only
    split
    · exact ok_s hs
    · exact ok_s hs
    · split
      · split
        · exact ok_s hs
        · exact ok_n
      · exact ok_n
    · refine ok_b (ia 0 s hs) fun x s1 q1 => ok_b (ib 0 s1 q1) fun y s2 q2 => ?_
      split
      · exact ok_s q2
      · exact ok_n
    · refine ok_b (ia 0 s hs) fun x s1 q1 => ?_
      split
      · exact ok_s q1
      · exact ok_n
    · refine ok_b (ia 0 s hs) fun x s1 q1 => ?_
      split
      · exact ok_s q1
      · exact ok_n
    · refine ok_b (ia 0 s hs) fun x s1 q1 => ok_b (ib 0 s1 q1) fun y s2 q2 => ?_
      split
      · exact ok_s q2
      · exact ok_n
    · refine ok_b (ia 0 s hs) fun x s1 q1 => ?_
      split
      · exact ok_s q1
      · exact ok_n
    · refine ok_a (ib 0 s hs) fun vs s1 q1 => ?_
      split
      · rename_i e
        exact ok_s (hc _ _ _ _ _ (by simpa using h8) q1 e)
      · exact ok_n
    · exact absurd hno (by decide)
    · exact absurd hno (by decide)
    · exact absurd hno (by decide)
    · exact absurd hno (by decide)
    · exact ok_s hs
    · exact ok_s hs
    · exact ok_s hs
    · exact ok_b (ia 0 s hs) fun x s1 q1 => ok_b (ib 0 s1 q1) fun y s2 q2 => ok_s q2
    · exact ok_b (ia 0 s hs) fun x s1 q1 => ok_s q1
    · exact ok_b (ia 0 s hs) fun x s1 q1 => ok_b (ib 0 s1 q1) fun y s2 q2 => ok_s q2
    · refine ok_b (ia 0 s hs) fun x s1 q1 => ?_
      split
      · exact ib 0 s1 q1
      · exact ok_s q1
    · refine ok_b (ia 0 s hs) fun x s1 q1 => ?_
      split
      · exact ok_s q1
      · exact ib 0 s1 q1
    · exact ok_b (ia 0 s hs) fun x s1 q1 => ok_s q1
    · refine ok_b (ia 0 s hs) fun x s1 q1 => ?_
      split
      · split
        · exact ok_n
        · exact ib 0 s1 q1
      · exact ok_s q1
    · exact ok_s hs
    · exact ok_q (ia 0 s hs) fun s1 q1 => ib 0 s1 q1
    · refine ok_b (ib 0 s hs) fun x s1 q1 => ?_
      split
      · exact ok_s q1
      · exact ok_n
    · split
      · exact ok_s hs
      · exact ok_n
    · refine ok_b (ia 0 s hs) fun x s1 q1 => ok_b (ib 0 s1 q1) fun y s2 q2 => ?_
      split
      · rename_i e
        split
        · refine ok_s (QB_fld q2 e (fun z => ?_))
          have : i.toNat ≠ 11017 ∧ i.toNat ≠ 11018 := by simpa using h34
          omega
        · exact ok_n
      · exact ok_n
    · split
      · rename_i e
        exact ok_s (ia 0 s hs _ _ _ e)
      · exact ok_n
    · exact ok_b (ia 0 s hs) fun x s1 q1 => ok_s q1
    · refine ok_b (ia 0 s hs) fun x s1 q1 => ?_
      split
      · exact ib 0 s1 q1
      · exact ok_s q1
    · exact ok_l (fun t q => ok_s q) (fun t q => ib 0 t q) (fun t q => ok_s q) F s hs
    · exact ok_d (fun t q => ia 0 t q) (fun t q => ib 0 t q) F s hs
    · exact ok_s hs
    · exact ok_s hs
    · exact ok_b (ib 0 s hs) fun x s1 q1 => ok_s q1
    · exact ok_s hs
    · split
      · split
        · exact ok_n
        · exact ia 0 s hs
      · exact ib _ s hs
    · split
      · exact ok_q (ia 0 s hs) fun s1 q1 => ib 0 s1 q1
      · exact ib _ s hs
    · exact ok_s hs
    · refine ok_b (ia 0 s hs) fun x s1 q1 => ?_
      split
      · rename_i e
        refine ok_b (ib 0 s1 q1) fun y s2 q2 => ?_
        split
        · split
          · refine ok_s (QB_put q2 (fun z => ?_))
            have := xob_k e
            rw [q1.2.1, z.1] at this
            have h1 : KK 158 = 21 := rfl
            have h2 : i.toNat % 1000000 ≠ 11017 ∧ i.toNat % 1000000 ≠ 11018 := by simpa using h54
            omega
          · exact ok_n
        · exact ok_n
      · exact ok_n
    · split
      · split
        · exact ok_s hs
        · exact ok_n
      · exact ok_n
    · exact ok_s hs
    · exact ok_b (ia 0 s hs) fun x s1 q1 => ok_a (ib 0 s1 q1) fun vs s2 q2 => ok_s q2
    · exact absurd hno (by decide)
    · exact absurd hno (by decide)
    · exact ok_n
  | .nil, _, _, _, _ => ok_n
  | .line, _, _, _, _ => ok_n
  | .align _, _, _, _, _ => ok_n
  | .text _, _, _, _, _ => ok_n
  | .append _ _, _, _, _, _ => ok_n
  | .nest _ _, _, _, _, _ => ok_n
  | .group .nil _, _, _, _, _ => ok_n
  | .group .line _, _, _, _, _ => ok_n
  | .group (.align _) _, _, _, _, _ => ok_n
  | .group (.text _) _, _, _, _, _ => ok_n
  | .group (.append _ _) _, _, _, _, _ => ok_n
  | .group (.nest _ _) _, _, _, _, _ => ok_n
  | .group (.group _ _) _, _, _, _, _ => ok_n
  | .group (.tag _ .nil) _, _, _, _, _ => ok_n
  | .group (.tag _ .line) _, _, _, _, _ => ok_n
  | .group (.tag _ (.align _)) _, _, _, _, _ => ok_n
  | .group (.tag _ (.text _)) _, _, _, _, _ => ok_n
  | .group (.tag _ (.append _ _)) _, _, _, _, _ => ok_n
  | .group (.tag _ (.group _ _)) _, _, _, _, _ => ok_n
  | .group (.tag _ (.tag _ _)) _, _, _, _, _ => ok_n
  | .group (.tag _ (.nest _ .nil)) _, _, _, _, _ => ok_n
  | .group (.tag _ (.nest _ .line)) _, _, _, _, _ => ok_n
  | .group (.tag _ (.nest _ (.align _))) _, _, _, _, _ => ok_n
  | .group (.tag _ (.nest _ (.text _))) _, _, _, _, _ => ok_n
  | .group (.tag _ (.nest _ (.nest _ _))) _, _, _, _, _ => ok_n
  | .group (.tag _ (.nest _ (.group _ _))) _, _, _, _, _ => ok_n
  | .group (.tag _ (.nest _ (.tag _ _))) _, _, _, _, _ => ok_n
  | .group (.tag _ (.nest _ (.append _ (.nil)))) _, _, _, _, _ => ok_n
  | .group (.tag _ (.nest _ (.append _ (.line)))) _, _, _, _, _ => ok_n
  | .group (.tag _ (.nest _ (.append _ (.align _)))) _, _, _, _, _ => ok_n
  | .group (.tag _ (.nest _ (.append _ (.text _)))) _, _, _, _, _ => ok_n
  | .group (.tag _ (.nest _ (.append _ (.nest _ _)))) _, _, _, _, _ => ok_n
  | .group (.tag _ (.nest _ (.append _ (.group _ _)))) _, _, _, _, _ => ok_n
  | .group (.tag _ (.nest _ (.append _ (.tag _ _)))) _, _, _, _, _ => ok_n
  | .tag _ (.nil), _, _, _, _ => ok_n
  | .tag _ (.line), _, _, _, _ => ok_n
  | .tag _ (.align _), _, _, _, _ => ok_n
  | .tag _ (.text _), _, _, _, _ => ok_n
  | .tag _ (.append _ _), _, _, _, _ => ok_n
  | .tag _ (.group _ _), _, _, _, _ => ok_n
  | .tag _ (.tag _ _), _, _, _, _ => ok_n
  | .tag _ (.nest _ (.nil)), _, _, _, _ => ok_n
  | .tag _ (.nest _ (.line)), _, _, _, _ => ok_n
  | .tag _ (.nest _ (.align _)), _, _, _, _ => ok_n
  | .tag _ (.nest _ (.text _)), _, _, _, _ => ok_n
  | .tag _ (.nest _ (.nest _ _)), _, _, _, _ => ok_n
  | .tag _ (.nest _ (.group _ _)), _, _, _, _ => ok_n
  | .tag _ (.nest _ (.tag _ _)), _, _, _, _ => ok_n
end EvOk
