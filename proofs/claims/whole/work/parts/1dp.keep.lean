/-! WHAT ANY RUN KEEPS: how many names are told stays within the table -/
def QB (B : Int) (h : xH) : Prop := h.1 = 331 ∧ h.2.1 = KK ∧ h.2.2.1 165 = 1600 ∧ h.2.2.2 158 18 = 165 ∧ 0 ≤ h.2.2.2 158 17 ∧ h.2.2.2 158 17 ≤ B
theorem QB_put {B : Int} {H : xH} {p k : Nat} {v : Int} (h : QB B H) (hp : ¬ (p = 158 ∧ (k = 17 ∨ k = 18))) : QB B (hput H p k v) := by
  obtain ⟨h1, h2, h3, h4, h5, h6⟩ := h
  have e : ∀ j, (j = 17 ∨ j = 18) → (hput H p k v).2.2.2 158 j = H.2.2.2 158 j := fun j hj => by
    show (if 158 = p then (if j = k then v else H.2.2.2 158 j) else H.2.2.2 158 j) = _
    by_cases z : 158 = p
    · rw [if_pos z, if_neg (by omega)]
    · rw [if_neg z]
  exact ⟨h1, h2, h3, (e 18 (by omega)).trans h4, by rw [e 17 (by omega)]; exact h5, by rw [e 17 (by omega)]; exact h6⟩
def OkR (Q : xH → Prop) (r : Option xR) : Prop := ∀ c v s, r = some (c, v, s) → Q s.2
section Okr
variable {Q : xH → Prop}
theorem ok_n : OkR Q none := fun _ _ _ e => by cases e
theorem ok_s {c : Nat} {v : List Int} {s : xS} (h : Q s.2) : OkR Q (some (c, v, s)) := fun _ _ _ e => by cases e; exact h
theorem ok_b {r : Option xR} {f : Int → xS → Option xR} (h1 : OkR Q r) (h2 : ∀ x s, Q s.2 → OkR Q (f x s)) : OkR Q (xb r f) := by
  intro c v s e
  unfold xb at e
  split at e
  · exact h2 _ _ (h1 _ _ _ rfl) c v s e
  · cases e
theorem ok_a {r : Option xR} {f : List Int → xS → Option xR} (h1 : OkR Q r) (h2 : ∀ x s, Q s.2 → OkR Q (f x s)) : OkR Q (xa r f) := by
  intro c v s e
  unfold xa at e
  split at e
  · exact h2 _ _ (h1 _ _ _ rfl) c v s e
  · cases e
theorem ok_q {r : Option xR} {f : xS → Option xR} (h1 : OkR Q r) (h2 : ∀ s, Q s.2 → OkR Q (f s)) : OkR Q (xq r f) := by
  intro c v s e
  unfold xq at e
  split at e
  · exact h2 _ (h1 _ _ _ rfl) c v s e
  · cases e; exact h1 _ _ _ rfl
  · cases e
theorem ok_l {c b u : xS → Option xR} (h1 : ∀ s, Q s.2 → OkR Q (c s)) (h2 : ∀ s, Q s.2 → OkR Q (b s)) (h3 : ∀ s, Q s.2 → OkR Q (u s)) : ∀ (n : Nat) (s : xS), Q s.2 → OkR Q (xloop c b u n s)
  | 0, s, h => ok_n
  | n + 1, s, h => by
    intro cc v s' e
    unfold xloop at e
    split at e
    · rename_i s1 e1
      have q1 := h1 s h _ _ _ e1
      split at e
      · rename_i s2 e2
        have q2 := h2 _ q1 _ _ _ e2
        split at e
        · rename_i s3 e3
          exact ok_l h1 h2 h3 n _ (h3 _ q2 _ _ _ e3) _ _ _ e
        · cases e
      · rename_i s2 e2
        have q2 := h2 _ q1 _ _ _ e2
        split at e
        · rename_i s3 e3
          exact ok_l h1 h2 h3 n _ (h3 _ q2 _ _ _ e3) _ _ _ e
        · cases e
      · rename_i s2 e2
        cases e
        exact h2 _ q1 _ _ _ e2
      · rename_i s2 e2
        cases e
        exact h2 _ q1 _ _ _ e2
      · cases e
    · rename_i s1 e1
      cases e
      exact h1 s h _ _ _ e1
    · cases e
theorem ok_d {b c : xS → Option xR} (h1 : ∀ s, Q s.2 → OkR Q (b s)) (h2 : ∀ s, Q s.2 → OkR Q (c s)) : ∀ (n : Nat) (s : xS), Q s.2 → OkR Q (xdo b c n s)
  | 0, s, h => ok_n
  | n + 1, s, h => by
    intro cc v s' e
    unfold xdo at e
    split at e
    · rename_i s1 e1
      have q1 := h1 s h _ _ _ e1
      split at e
      · rename_i s2 e2
        exact ok_d h1 h2 n _ (h2 _ q1 _ _ _ e2) _ _ _ e
      · rename_i s2 e2
        cases e
        exact h2 _ q1 _ _ _ e2
      · cases e
    · rename_i s1 e1
      have q1 := h1 s h _ _ _ e1
      split at e
      · rename_i s2 e2
        exact ok_d h1 h2 n _ (h2 _ q1 _ _ _ e2) _ _ _ e
      · rename_i s2 e2
        cases e
        exact h2 _ q1 _ _ _ e2
      · cases e
    · rename_i s1 e1
      cases e
      exact h1 s h _ _ _ e1
    · rename_i s1 e1
      cases e
      exact h1 s h _ _ _ e1
    · cases e
end Okr
/-- no write of the count, calls of these methods alone, nothing made -/
def chk (ok : Nat → Bool) : xT → Bool
  | .group (.tag k (.nest i (.append a (.append b c)))) _ => (k != 35 || decide (i.toNat < 10)) && chk ok a && chk ok b && chk ok c
  | .tag k (.nest i (.append a b)) => (k != 8 || ok i.toNat) && (k != 34 || (i.toNat != 11017 && i.toNat != 11018)) && (k != 54 || (i.toNat % 1000000 != 11017 && i.toNat % 1000000 != 11018)) && (k != 10 && k != 12 && k != 13 && k != 14 && k != 59 && k != 60) && chk ok a && chk ok b
  | _ => true
theorem xat_k {h : xH} {kd : Nat} {a i : Int} {p q : Nat} (e : xat h kd a i = some (p, q)) : h.2.1 p = kd := by
  unfold xat at e
  split at e
  · rename_i z
    cases e
    exact z.2.2.1
  · cases e
theorem xob_k {h : xH} {c : Nat} {a : Int} {p : Nat} (e : xob h c a = some p) : h.2.1 p = 10 + c := by
  unfold xob at e
  split at e
  · rename_i z
    cases e
    exact z.2.2
  · cases e
section EvOk
variable {ft : xF} {cl : Nat → List Int → xH → Option (List Int × xH)} {F S : Nat} {B : Int} {ok : Nat → Bool}
theorem QB_arr {h : xH} {kd : Nat} {a i : Int} {p q : Nat} {v : Int} (Q : QB B h) (e : xat h kd a i = some (p, q)) (hk : kd < 10) : QB B (hput h p q v) := QB_put Q (fun z => by
  have := xat_k e
  rw [Q.2.1, z.1] at this
  have h1 : KK 158 = 21 := rfl
  omega)
theorem QB_fld {h : xH} {c k : Nat} {a : Int} {p : Nat} {v : Int} (Q : QB B h) (e : xob h c a = some p) (hk : ¬ (c = 11 ∧ (k = 17 ∨ k = 18))) : QB B (hput h p k v) := QB_put Q (fun z => by
  have := xob_k e
  rw [Q.2.1, z.1] at this
  have h1 : KK 158 = 21 := rfl
  exact hk ⟨by omega, z.2⟩)
theorem ev_ok (hc : ∀ i vs h r h', ok i = true → QB B h → cl i vs h = some (r, h') → QB B h') : ∀ (t : xT), chk ok t = true → ∀ (g : Nat) (s : xS), QB B s.2 → OkR (QB B) (ev ft cl F S t g s)
  | .group (.tag k (.nest i (.append a (.append b c)))) _, ht, g, s, hs => by
    unfold chk at ht
    simp only [Bool.and_eq_true] at ht
    obtain ⟨⟨⟨h35, ha⟩, hb⟩, hcc⟩ := ht
    have ia := ev_ok hc a ha
    have ib := ev_ok hc b hb
    have ic := ev_ok hc c hcc
    unfold ev
    split
    · refine ok_b (ia 0 s hs) fun x s1 q1 => ?_
      split
      · exact ib 0 s1 q1
      · exact ic 0 s1 q1
    · refine ok_b (ia 0 s hs) fun x s1 q1 => ok_b (ib 0 s1 q1) fun y s2 q2 => ok_b (ic 0 s2 q2) fun z s3 q3 => ?_
      split
      · rename_i e
        split
        · exact ok_s (QB_arr q3 e (by simpa using h35))
        · exact ok_n
      · exact ok_n
    · refine ok_b (ia 0 s hs) fun x s1 q1 => ?_
      split
      · exact ib 0 s1 q1
      · exact ic 0 s1 q1
    · refine ok_b (ia 0 s hs) fun x s1 q1 => ?_
      split
      · split
        · exact ok_n
        · exact ib 0 s1 q1
      · exact ic 0 s1 q1
    · refine ok_b (ia 0 s hs) fun x s1 q1 => ?_
      split
      · exact ib 0 s1 q1
      · split
        · exact ok_n
        · exact ic 0 s1 q1
    · exact ok_l (fun t q => ia 0 t q) (fun t q => ib 0 t q) (fun t q => ic 0 t q) F s hs
    · refine ok_b (ia 0 s hs) fun x s1 q1 => ?_
      split
      · rename_i e
        exact ok_s (ic _ s1 q1 _ _ _ e)
      · exact ic _ s1 q1
    · refine ok_b (ia 0 s hs) fun x s1 q1 => ok_b (ib 0 s1 q1) fun y s2 q2 => ?_
      split
      · refine ok_b (ic 0 s2 q2) fun z s3 q3 => ?_
        split
        · rename_i e1 _ _ _ _ e2 e3
          split
          · refine ok_s (QB_put q3 (fun z => ?_))
            have := xat_k e1
            rw [q2.2.1, z.1] at this
            have h1 : KK 158 = 21 := rfl
            omega
          · exact ok_n
        · exact ok_n
      · exact ok_n
    · exact ok_n
  | .tag k (.nest i (.append a b)), ht, g, s, hs => by
    unfold chk at ht
    simp only [Bool.and_eq_true] at ht
    obtain ⟨⟨⟨⟨⟨h8, h34⟩, h54⟩, hno⟩, ha⟩, hb⟩ := ht
    have ia := ev_ok hc a ha
    have ib := ev_ok hc b hb
    unfold ev
    split
    · exact ok_s hs
    · exact ok_s hs
    · split
      · split
        · exact ok_s hs
        · exact ok_n
      · exact ok_n
    · refine ok_b (ia 0 s hs) fun x s1 q1 => ok_b (ib 0 s1 q1) fun y s2 q2 => ?_
      split
      · exact ok_s q2
      · exact ok_n
    · refine ok_b (ia 0 s hs) fun x s1 q1 => ?_
      split
      · exact ok_s q1
      · exact ok_n
    · refine ok_b (ia 0 s hs) fun x s1 q1 => ?_
      split
      · exact ok_s q1
      · exact ok_n
    · refine ok_b (ia 0 s hs) fun x s1 q1 => ok_b (ib 0 s1 q1) fun y s2 q2 => ?_
      split
      · exact ok_s q2
      · exact ok_n
    · refine ok_b (ia 0 s hs) fun x s1 q1 => ?_
      split
      · exact ok_s q1
      · exact ok_n
    · refine ok_a (ib 0 s hs) fun vs s1 q1 => ?_
      split
      · rename_i e
        exact ok_s (hc _ _ _ _ _ (by simpa using h8) q1 e)
      · exact ok_n
    · exact absurd hno (by decide)
    · exact absurd hno (by decide)
    · exact absurd hno (by decide)
    · exact absurd hno (by decide)
    · exact ok_s hs
    · exact ok_s hs
    · exact ok_s hs
    · exact ok_b (ia 0 s hs) fun x s1 q1 => ok_b (ib 0 s1 q1) fun y s2 q2 => ok_s q2
    · exact ok_b (ia 0 s hs) fun x s1 q1 => ok_s q1
    · exact ok_b (ia 0 s hs) fun x s1 q1 => ok_b (ib 0 s1 q1) fun y s2 q2 => ok_s q2
    · refine ok_b (ia 0 s hs) fun x s1 q1 => ?_
      split
      · exact ib 0 s1 q1
      · exact ok_s q1
    · refine ok_b (ia 0 s hs) fun x s1 q1 => ?_
      split
      · exact ok_s q1
      · exact ib 0 s1 q1
    · exact ok_b (ia 0 s hs) fun x s1 q1 => ok_s q1
    · refine ok_b (ia 0 s hs) fun x s1 q1 => ?_
      split
      · split
        · exact ok_n
        · exact ib 0 s1 q1
      · exact ok_s q1
    · exact ok_s hs
    · exact ok_q (ia 0 s hs) fun s1 q1 => ib 0 s1 q1
    · refine ok_b (ib 0 s hs) fun x s1 q1 => ?_
      split
      · exact ok_s q1
      · exact ok_n
    · split
      · exact ok_s hs
      · exact ok_n
    · refine ok_b (ia 0 s hs) fun x s1 q1 => ok_b (ib 0 s1 q1) fun y s2 q2 => ?_
      split
      · rename_i e
        split
        · refine ok_s (QB_fld q2 e (fun z => ?_))
          have : i.toNat ≠ 11017 ∧ i.toNat ≠ 11018 := by simpa using h34
          omega
        · exact ok_n
      · exact ok_n
    · split
      · rename_i e
        exact ok_s (ia 0 s hs _ _ _ e)
      · exact ok_n
    · exact ok_b (ia 0 s hs) fun x s1 q1 => ok_s q1
    · refine ok_b (ia 0 s hs) fun x s1 q1 => ?_
      split
      · exact ib 0 s1 q1
      · exact ok_s q1
    · exact ok_l (fun t q => ok_s q) (fun t q => ib 0 t q) (fun t q => ok_s q) F s hs
    · exact ok_d (fun t q => ia 0 t q) (fun t q => ib 0 t q) F s hs
    · exact ok_s hs
    · exact ok_s hs
    · exact ok_b (ib 0 s hs) fun x s1 q1 => ok_s q1
    · exact ok_s hs
    · split
      · split
        · exact ok_n
        · exact ia 0 s hs
      · exact ib _ s hs
    · split
      · exact ok_q (ia 0 s hs) fun s1 q1 => ib 0 s1 q1
      · exact ib _ s hs
    · exact ok_s hs
    · refine ok_b (ia 0 s hs) fun x s1 q1 => ?_
      split
      · rename_i e
        refine ok_b (ib 0 s1 q1) fun y s2 q2 => ?_
        split
        · split
          · refine ok_s (QB_put q2 (fun z => ?_))
            have := xob_k e
            rw [q1.2.1, z.1] at this
            have h1 : KK 158 = 21 := rfl
            have h2 : i.toNat % 1000000 ≠ 11017 ∧ i.toNat % 1000000 ≠ 11018 := by simpa using h54
            omega
          · exact ok_n
        · exact ok_n
      · exact ok_n
    · split
      · split
        · exact ok_s hs
        · exact ok_n
      · exact ok_n
    · exact ok_s hs
    · exact ok_b (ia 0 s hs) fun x s1 q1 => ok_a (ib 0 s1 q1) fun vs s2 q2 => ok_s q2
    · exact absurd hno (by decide)
    · exact absurd hno (by decide)
    · exact ok_n
  | .nil, _, _, _, _ => ok_n
  | .line, _, _, _, _ => ok_n
  | .align _, _, _, _, _ => ok_n
  | .text _, _, _, _, _ => ok_n
  | .append _ _, _, _, _, _ => ok_n
  | .nest _ _, _, _, _, _ => ok_n
  | .group .nil _, _, _, _, _ => ok_n
  | .group .line _, _, _, _, _ => ok_n
  | .group (.align _) _, _, _, _, _ => ok_n
  | .group (.text _) _, _, _, _, _ => ok_n
  | .group (.append _ _) _, _, _, _, _ => ok_n
  | .group (.nest _ _) _, _, _, _, _ => ok_n
  | .group (.group _ _) _, _, _, _, _ => ok_n
  | .group (.tag _ .nil) _, _, _, _, _ => ok_n
  | .group (.tag _ .line) _, _, _, _, _ => ok_n
  | .group (.tag _ (.align _)) _, _, _, _, _ => ok_n
  | .group (.tag _ (.text _)) _, _, _, _, _ => ok_n
  | .group (.tag _ (.append _ _)) _, _, _, _, _ => ok_n
  | .group (.tag _ (.group _ _)) _, _, _, _, _ => ok_n
  | .group (.tag _ (.tag _ _)) _, _, _, _, _ => ok_n
  | .group (.tag _ (.nest _ .nil)) _, _, _, _, _ => ok_n
  | .group (.tag _ (.nest _ .line)) _, _, _, _, _ => ok_n
  | .group (.tag _ (.nest _ (.align _))) _, _, _, _, _ => ok_n
  | .group (.tag _ (.nest _ (.text _))) _, _, _, _, _ => ok_n
  | .group (.tag _ (.nest _ (.nest _ _))) _, _, _, _, _ => ok_n
  | .group (.tag _ (.nest _ (.group _ _))) _, _, _, _, _ => ok_n
  | .group (.tag _ (.nest _ (.tag _ _))) _, _, _, _, _ => ok_n
  | .group (.tag _ (.nest _ (.append _ (.nil)))) _, _, _, _, _ => ok_n
  | .group (.tag _ (.nest _ (.append _ (.line)))) _, _, _, _, _ => ok_n
  | .group (.tag _ (.nest _ (.append _ (.align _)))) _, _, _, _, _ => ok_n
  | .group (.tag _ (.nest _ (.append _ (.text _)))) _, _, _, _, _ => ok_n
  | .group (.tag _ (.nest _ (.append _ (.nest _ _)))) _, _, _, _, _ => ok_n
  | .group (.tag _ (.nest _ (.append _ (.group _ _)))) _, _, _, _, _ => ok_n
  | .group (.tag _ (.nest _ (.append _ (.tag _ _)))) _, _, _, _, _ => ok_n
  | .tag _ (.nil), _, _, _, _ => ok_n
  | .tag _ (.line), _, _, _, _ => ok_n
  | .tag _ (.align _), _, _, _, _ => ok_n
  | .tag _ (.text _), _, _, _, _ => ok_n
  | .tag _ (.append _ _), _, _, _, _ => ok_n
  | .tag _ (.group _ _), _, _, _, _ => ok_n
  | .tag _ (.tag _ _), _, _, _, _ => ok_n
  | .tag _ (.nest _ (.nil)), _, _, _, _ => ok_n
  | .tag _ (.nest _ (.line)), _, _, _, _ => ok_n
  | .tag _ (.nest _ (.align _)), _, _, _, _ => ok_n
  | .tag _ (.nest _ (.text _)), _, _, _, _ => ok_n
  | .tag _ (.nest _ (.nest _ _)), _, _, _, _ => ok_n
  | .tag _ (.nest _ (.group _ _)), _, _, _, _ => ok_n
  | .tag _ (.nest _ (.tag _ _)), _, _, _, _ => ok_n
end EvOk
def okW (i : Nat) : Bool := decide (207 ≤ i ∧ i ≤ 248)
theorem chk_all : ((List.range 42).all fun j => (207 + j == 218) || (match pmt (207 + j) with
  | some x => chk okW x.2.2.2.2
  | none => false)) = true := by decide +kernel
theorem chk_m {i : Nat} {x : Nat × List Nat × Nat × Nat × xT} (h : okW i = true) (h2 : i ≠ 218) (e : pmt i = some x) : chk okW x.2.2.2.2 = true := by
  have h1 : 207 ≤ i ∧ i ≤ 248 := by simpa [okW] using h
  have := List.all_eq_true.mp chk_all (i - 207) (List.mem_range.mpr (by omega))
  rw [show 207 + (i - 207) = i from by omega, e] at this
  simp only [Bool.or_eq_true, beq_iff_eq] at this
  rcases this with z | z
  · exact absurd z h2
  · exact z
theorem KK_21 : ((List.range 331).all fun p => (p == 158) || (KK p != 21)) = true := by decide +kernel
theorem KK_u {p : Nat} (h : p < 331) (e : KK p = 21) : p = 158 := by
  have := List.all_eq_true.mp KK_21 p (List.mem_range.mpr h)
  simp only [Bool.or_eq_true, beq_iff_eq, bne_iff_ne, ne_eq] at this
  rcases this with z | z
  · exact z
  · exact absurd e z
section EvE
variable {ft : xF} {cl : Nat → List Int → xH → Option (List Int × xH)} {F S g : Nat} {i : Int} {a b c : xT} {s : xS}
theorem e_5 : ev ft cl F S (nd 5 i a b) g s = xb (ev ft cl F S a 0 s) (fun x s1 => match xob s1.2 (i.toNat / 1000) x with
  | some p => some (0, [s1.2.2.2.2 p (i.toNat % 1000)], s1)
  | none => none) := rfl
theorem e_2 : ev ft cl F S (nd 2 i a b) g s = (match s.1[i.toNat / 4]? with
  | some (t, n) => if t = i.toNat % 4 then some (0, [n], s) else none
  | none => none) := rfl
theorem e_35 : ev ft cl F S (n3 35 i a b c) g s = xb (ev ft cl F S a 0 s) (fun x s1 => xb (ev ft cl F S b 0 s1) (fun y s2 => xb (ev ft cl F S c 0 s2) (fun z s3 => match xat s3.2 i.toNat x y with
  | some (p, q) => if S ≤ p then some (0, [], (s3.1, hput s3.2 p q (xnar i.toNat z))) else none
  | none => none))) := rfl
theorem e_31 : ev ft cl F S (nd 31 i a b) g s = xq (ev ft cl F S a 0 s) (fun s1 => ev ft cl F S b 0 s1) := rfl
theorem e_48 : ev ft cl F S (nd 48 i a b) g s = some (3, [], s) := rfl
theorem e_0 : ev ft cl F S (nd 0 i a b) g s = some (0, [i], s) := rfl
theorem e_54 : ev ft cl F S (nd 54 i a b) g s = xb (ev ft cl F S a 0 s) (fun x s1 => match xob s1.2 (i.toNat % 1000000 / 1000) x with
  | some p => xb (ev ft cl F S b 0 s1) (fun y s2 => match xbin (i.toNat / 1000000) (s1.2.2.2.2 p (i.toNat % 1000)) y, xob s2.2 (i.toNat % 1000000 / 1000) x with
    | some z, some _ => if S ≤ p then some (0, [], (s2.1, hput s2.2 p (i.toNat % 1000) z)) else none
    | _, _ => none)
  | none => none) := rfl
theorem loc_s {r : xR} (e : ev ft cl F S (nd 2 i a b) g s = some r) : r.2.2 = s := by
  rw [e_2] at e
  split at e
  · split at e
    · cases e; rfl
    · cases e
  · cases e
end EvE
section E218
variable {ft : xF} {cl : Nat → List Int → xH → Option (List Int × xH)} {F S : Nat} {B : Int}
theorem xob_11 {h : xH} {a : Int} {p : Nat} (Q : QB B h) (e : xob h 11 a = some p) : p = 158 := by
  have k := xob_k e
  unfold xob at e
  split at e
  · rename_i z
    cases e
    rw [Q.2.1] at k
    exact KK_u (by have := z.2.1; rw [Q.1] at this; omega) k
  · cases e
theorem fld_11 {s : xS} {f : Int} (Q : QB B s.2) (hf : f.toNat / 1000 = 11) : ev ft cl F S (nd 5 f (nd 2 2 xz xz) xz) 0 s = none ∨ ev ft cl F S (nd 5 f (nd 2 2 xz xz) xz) 0 s = some (0, [s.2.2.2.2 158 (f.toNat % 1000)], s) := by
  cases hr : ev ft cl F S (nd 5 f (nd 2 2 xz xz) xz) 0 s with
  | none => exact Or.inl rfl
  | some x =>
    right
    rw [e_5] at hr
    unfold xb at hr
    split at hr
    · rename_i y s1 e1
      have e2 : s1 = s := loc_s e1
      subst e2
      dsimp only at hr
      split at hr
      · rename_i p e3
        rw [hf] at e3
        have := xob_11 Q e3
        subst this
        exact hr.symm
      · cases hr
    · cases hr
theorem ev_218 {s : xS} (Q : QB 1600 s.2) : OkR (QB 1600) (ev ft cl F S tr_218 0 s) := by
  have hA : OkR (QB 1599) (ev ft cl F S (n3 35 1 (nd 5 11018 (nd 2 2 xz xz) xz) (nd 5 11017 (nd 2 2 xz xz) xz) (nd 2 5 xz xz)) 0 s) := by
    intro c v s' e
    rw [e_35] at e
    rcases fld_11 (ft := ft) (cl := cl) (F := F) (S := S) (f := 11018) Q (by decide) with z | z
    · rw [z] at e
      cases e
    · rw [z] at e
      simp only [xb] at e
      rcases fld_11 (ft := ft) (cl := cl) (F := F) (S := S) (f := 11017) Q (by decide) with z2 | z2
      · rw [z2] at e
        cases e
      · rw [z2] at e
        simp only at e
        split at e
        · rename_i w s3 e3
          have e4 : s3 = s := loc_s e3
          subst e4
          split at e
          · rename_i p q e5
            have e5' := e5
            unfold xat at e5'
            split at e5'
            · rename_i hz
              split at e
              · cases e
                have hlt : s3.2.2.2.2 158 17 < 1600 := by
                  have h9 := hz.2.2.2.2
                  have h8 : s3.2.2.2.2 158 18 = 165 := Q.2.2.2.1
                  have h7 : s3.2.2.2.1 165 = 1600 := Q.2.2.1
                  simp only [Int.reduceToNat, Nat.reduceMod] at h9
                  rw [h8] at h9
                  simp only [Int.reduceToNat] at h9
                  rw [h7] at h9
                  exact h9
                have Q1 : QB 1599 s3.2 := ⟨Q.1, Q.2.1, Q.2.2.1, Q.2.2.2.1, Q.2.2.2.2.1, by omega⟩
                exact QB_arr Q1 e5 (by decide)
              · cases e
            · cases e5'
          · cases e
        · cases e
  have hn : ∀ i vs h r h', (fun _ : Nat => false) i = true → QB 1599 h → cl i vs h = some (r, h') → QB 1599 h' := fun _ _ _ _ _ z => Bool.noConfusion z
  have hD : ∀ s, QB 1599 s.2 → OkR (QB 1600) (ev ft cl F S (nd 54 11017 (nd 2 2 xz xz) (nd 0 1 xz xz)) 0 s) := fun s Q1 => by
    intro c v s' e
    rw [e_54] at e
    unfold xb at e
    split at e
    · rename_i y s1 e1
      have e2 : s1 = s := loc_s e1
      subst e2
      dsimp only at e
      split at e
      · rename_i p e3
        have e3' : xob s1.2 11 y = some p := e3
        have hp := xob_11 Q1 e3'
        subst hp
        rw [e_0] at e
        simp only at e
        split at e
        · rename_i z w e4 e5
          split at e
          · cases e
            have e6 : z = w32 (s1.2.2.2.2 158 17 + 1) := by
              have : xbin 0 (s1.2.2.2.2 158 17) 1 = some z := e4
              rw [xbin_0] at this
              exact (Option.some.inj this).symm
            obtain ⟨h1, h2, h3, h4, h5, h6⟩ := Q1
            rw [w32_of (by omega) (by omega)] at e6
            refine ⟨h1, h2, h3, ?_, ?_, ?_⟩
            · exact h4
            · show 0 ≤ z
              omega
            · show z ≤ 1600
              omega
          · cases e
        · cases e
      · cases e
    · cases e
  have Qm : ∀ {h : xH}, QB 1599 h → QB 1600 h := fun q => ⟨q.1, q.2.1, q.2.2.1, q.2.2.2.1, q.2.2.2.2.1, by have := q.2.2.2.2.2; omega⟩
  have hE : ∀ s, QB 1599 s.2 → OkR (QB 1600) (ev ft cl F S (nd 31 0 (n3 35 0 (nd 5 11019 (nd 2 2 xz xz) xz) (nd 5 11017 (nd 2 2 xz xz) xz) (nd 2 12 xz xz)) (nd 31 0 (n3 35 0 (nd 5 11020 (nd 2 2 xz xz) xz) (nd 5 11017 (nd 2 2 xz xz) xz) (nd 2 16 xz xz)) (nd 31 0 (nd 54 11017 (nd 2 2 xz xz) (nd 0 1 xz xz)) (nd 48 0 xz xz)))) 0 s) := fun s Q1 => by
    intro c v s' e
    rw [e_31] at e
    unfold xq at e
    split at e
    · rename_i w s1 e1
      have q1 := ev_ok (ok := fun _ => false) hn _ (by rfl) 0 s Q1 _ _ _ e1
      dsimp only at e
      rw [e_31] at e
      unfold xq at e
      split at e
      · rename_i w s2 e2
        have q2 := ev_ok (ok := fun _ => false) hn _ (by rfl) 0 s1 q1 _ _ _ e2
        dsimp only at e
        rw [e_31] at e
        unfold xq at e
        split at e
        · rename_i w s3 e3
          have q3 := hD s2 q2 _ _ _ e3
          dsimp only at e
          rw [e_48] at e
          cases e
          exact q3
        · rename_i e3
          cases e
          exact hD s2 q2 _ _ _ e3
        · cases e
      · rename_i e2
        cases e
        exact Qm (ev_ok (ok := fun _ => false) hn _ (by rfl) 0 s1 q1 _ _ _ e2)
      · cases e
    · rename_i e1
      cases e
      exact Qm (ev_ok (ok := fun _ => false) hn _ (by rfl) 0 s Q1 _ _ _ e1)
    · cases e
  intro c v s' e
  unfold tr_218 at e
  rw [e_31] at e
  unfold xq at e
  split at e
  · rename_i w s1 e1
    exact hE s1 (hA _ _ _ e1) _ _ _ e
  · rename_i e1
    cases e
    exact Qm (hA _ _ _ e1)
  · cases e
end E218
theorem pm_218 : ∃ a b c d, pmt 218 = some (a, b, c, d, tr_218) := ⟨_, _, _, _, rfl⟩
/-- calls of the model's walks keep the count within the table -/
theorem Cx_keep {F : Nat} : ∀ (d i : Nat) (vs : List Int) (h : xH) (r : List Int) (h' : xH), okW i = true → QB 1600 h → xcall pft pmt F pS d i vs h = some (r, h') → QB 1600 h' := by
  intro d
  induction d with
  | zero => intro i vs h r h' hi Q e; cases e
  | succ d ih =>
    intro i vs h r h' hi Q e
    unfold xcall at e
    split at e
    · rename_i nL ts rc rt t hm
      split at e
      · split at e
        · rename_i r1 s1 e1
          split at e
          · cases e
            by_cases h218 : i = 218
            · subst h218
              obtain ⟨a, b, c, dd, hq⟩ := pm_218
              rw [hq] at hm
              cases hm
              exact ev_218 (s := (_, h)) Q _ _ _ e1
            · exact ev_ok (ok := okW) (fun i vs h r h' x1 x2 x3 => ih i vs h r h' x1 x2 x3) t (chk_m hi h218 hm) 0 (_, h) Q _ _ _ e1
          · cases e
        · cases e
      · cases e
    · cases e
theorem W_17 {F L d : Nat} {xs : Nat → Int32} {m m' : Mem} {r : List Int} (h0 : 0 ≤ m 158 17) (h1 : m 158 17 ≤ 1600) (e : Cx F d 220 [158] (Hp L xs m) = some (r, Hp L xs m')) : 0 ≤ m' 158 17 ∧ m' 158 17 ≤ 1600 := by
  have Q : QB 1600 (Hp L xs m) := ⟨rfl, rfl, rfl, rfl, h0, h1⟩
  obtain ⟨_, _, _, _, q1, q2⟩ := Cx_keep d 220 [158] _ _ _ (by rfl) Q e
  exact ⟨q1, q2⟩
