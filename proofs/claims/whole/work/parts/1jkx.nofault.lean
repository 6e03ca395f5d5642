/-! A WALK THAT DOES NOT BREAK TELLS NO FAULT -/
def Q9 (f : Int → Int → Int → Prop) (h : xH) : Prop := h.1 = 331 ∧ h.2.1 = KK ∧ f (h.2.2.2 158 15) (h.2.2.2 158 9) (h.2.2.2 158 10)
theorem Q9_put {B : Int → Int → Int → Prop} {H : xH} {p k : Nat} {v : Int} (h : Q9 B H) (hp : ¬ (p = 158 ∧ (k = 9 ∨ k = 10 ∨ k = 15))) : Q9 B (hput H p k v) := by
  obtain ⟨h1, h2, h3⟩ := h
  have e : ∀ j, (j = 9 ∨ j = 10 ∨ j = 15) → (hput H p k v).2.2.2 158 j = H.2.2.2 158 j := fun j hj => by
    show (if 158 = p then (if j = k then v else H.2.2.2 158 j) else H.2.2.2 158 j) = _
    by_cases z : 158 = p
    · rw [if_pos z, if_neg (by omega)]
    · rw [if_neg z]
  exact ⟨h1, h2, by rw [e 15 (by omega), e 9 (by omega), e 10 (by omega)]; exact h3⟩
/-- no write of fault, calls of these methods alone, nothing made -/
def chk9 (ok : Nat → Bool) : xT → Bool
  | .group (.tag k (.nest i (.append a (.append b c)))) _ => (k != 35 || decide (i.toNat < 10)) && chk9 ok a && chk9 ok b && chk9 ok c
  | .tag k (.nest i (.append a b)) => (k != 8 || ok i.toNat) && (k != 34 || (i.toNat != 11009 && i.toNat != 11010 && i.toNat != 11015)) && (k != 54 || (i.toNat % 1000000 != 11009 && i.toNat % 1000000 != 11010 && i.toNat % 1000000 != 11015)) && (k != 10 && k != 12 && k != 13 && k != 14 && k != 59 && k != 60) && chk9 ok a && chk9 ok b
  | _ => true
section EvOk9
variable {ft : xF} {cl : Nat → List Int → xH → Option (List Int × xH)} {F S : Nat} {B : Int → Int → Int → Prop} {ok : Nat → Bool}
theorem Q9_arr {h : xH} {kd : Nat} {a i : Int} {p q : Nat} {v : Int} (Q : Q9 B h) (e : xat h kd a i = some (p, q)) (hk : kd < 10) : Q9 B (hput h p q v) := Q9_put Q (fun z => by
  have := xat_k e
  rw [Q.2.1, z.1] at this
  have h1 : KK 158 = 21 := rfl
  omega)
theorem Q9_fld {h : xH} {c k : Nat} {a : Int} {p : Nat} {v : Int} (Q : Q9 B h) (e : xob h c a = some p) (hk : ¬ (c = 11 ∧ (k = 9 ∨ k = 10 ∨ k = 15))) : Q9 B (hput h p k v) := Q9_put Q (fun z => by
  have := xob_k e
  rw [Q.2.1, z.1] at this
  have h1 : KK 158 = 21 := rfl
  exact hk ⟨by omega, z.2⟩)
theorem ev_ok9 (hc : ∀ i vs h r h', ok i = true → Q9 B h → cl i vs h = some (r, h') → Q9 B h') : ∀ (t : xT), chk9 ok t = true → ∀ (g : Nat) (s : xS), Q9 B s.2 → OkR (Q9 B) (ev ft cl F S t g s)
  | .group (.tag k (.nest i (.append a (.append b c)))) _, ht, g, s, hs => by
    unfold chk9 at ht
    simp only [Bool.and_eq_true] at ht
    obtain ⟨⟨⟨h35, ha⟩, hb⟩, hcc⟩ := ht
    have ia := ev_ok9 hc a ha
    have ib := ev_ok9 hc b hb
    have ic := ev_ok9 hc c hcc
    unfold ev
    split
    · refine ok_b (ia 0 s hs) fun x s1 q1 => ?_
      split
      · exact ib 0 s1 q1
      · exact ic 0 s1 q1
    · refine ok_b (ia 0 s hs) fun x s1 q1 => ok_b (ib 0 s1 q1) fun y s2 q2 => ok_b (ic 0 s2 q2) fun z s3 q3 => ?_
      split
      · rename_i e
        split
        · exact ok_s (Q9_arr q3 e (by simpa using h35))
        · exact ok_n
      · exact ok_n
    · refine ok_b (ia 0 s hs) fun x s1 q1 => ?_
      split
      · exact ib 0 s1 q1
      · exact ic 0 s1 q1
    · refine ok_b (ia 0 s hs) fun x s1 q1 => ?_
      split
      · split
        · exact ok_n
        · exact ib 0 s1 q1
      · exact ic 0 s1 q1
    · refine ok_b (ia 0 s hs) fun x s1 q1 => ?_
      split
      · exact ib 0 s1 q1
      · split
        · exact ok_n
        · exact ic 0 s1 q1
    · exact ok_l (fun t q => ia 0 t q) (fun t q => ib 0 t q) (fun t q => ic 0 t q) F s hs
    · refine ok_b (ia 0 s hs) fun x s1 q1 => ?_
      split
      · rename_i e
        exact ok_s (ic _ s1 q1 _ _ _ e)
      · exact ic _ s1 q1
    · refine ok_b (ia 0 s hs) fun x s1 q1 => ok_b (ib 0 s1 q1) fun y s2 q2 => ?_
      split
      · refine ok_b (ic 0 s2 q2) fun z s3 q3 => ?_
        split
        · rename_i e1 _ _ _ _ e2 e3
          split
          · refine ok_s (Q9_put q3 (fun z => ?_))
            have := xat_k e1
            rw [q2.2.1, z.1] at this
            have h1 : KK 158 = 21 := rfl
            omega
          · exact ok_n
        · exact ok_n
      · exact ok_n
    · exact ok_n
  | .tag k (.nest i (.append a b)), ht, g, s, hs => by
    unfold chk9 at ht
    simp only [Bool.and_eq_true] at ht
    obtain ⟨⟨⟨⟨⟨h8, h34⟩, h54⟩, hno⟩, ha⟩, hb⟩ := ht
    have ia := ev_ok9 hc a ha
    have ib := ev_ok9 hc b hb
    unfold ev
    split
    · exact ok_s hs
    · exact ok_s hs
    · split
      · split
        · exact ok_s hs
        · exact ok_n
      · exact ok_n
    · refine ok_b (ia 0 s hs) fun x s1 q1 => ok_b (ib 0 s1 q1) fun y s2 q2 => ?_
      split
      · exact ok_s q2
      · exact ok_n
    · refine ok_b (ia 0 s hs) fun x s1 q1 => ?_
      split
      · exact ok_s q1
      · exact ok_n
    · refine ok_b (ia 0 s hs) fun x s1 q1 => ?_
      split
      · exact ok_s q1
      · exact ok_n
    · refine ok_b (ia 0 s hs) fun x s1 q1 => ok_b (ib 0 s1 q1) fun y s2 q2 => ?_
      split
      · exact ok_s q2
      · exact ok_n
    · refine ok_b (ia 0 s hs) fun x s1 q1 => ?_
      split
      · exact ok_s q1
      · exact ok_n
    · refine ok_a (ib 0 s hs) fun vs s1 q1 => ?_
      split
      · rename_i e
        exact ok_s (hc _ _ _ _ _ (by simpa using h8) q1 e)
      · exact ok_n
    · exact absurd hno (by decide)
    · exact absurd hno (by decide)
    · exact absurd hno (by decide)
    · exact absurd hno (by decide)
    · exact ok_s hs
    · exact ok_s hs
    · exact ok_s hs
    · exact ok_b (ia 0 s hs) fun x s1 q1 => ok_b (ib 0 s1 q1) fun y s2 q2 => ok_s q2
    · exact ok_b (ia 0 s hs) fun x s1 q1 => ok_s q1
    · exact ok_b (ia 0 s hs) fun x s1 q1 => ok_b (ib 0 s1 q1) fun y s2 q2 => ok_s q2
    · refine ok_b (ia 0 s hs) fun x s1 q1 => ?_
      split
      · exact ib 0 s1 q1
      · exact ok_s q1
    · refine ok_b (ia 0 s hs) fun x s1 q1 => ?_
      split
      · exact ok_s q1
      · exact ib 0 s1 q1
    · exact ok_b (ia 0 s hs) fun x s1 q1 => ok_s q1
    · refine ok_b (ia 0 s hs) fun x s1 q1 => ?_
      split
      · split
        · exact ok_n
        · exact ib 0 s1 q1
      · exact ok_s q1
    · exact ok_s hs
    · exact ok_q (ia 0 s hs) fun s1 q1 => ib 0 s1 q1
    · refine ok_b (ib 0 s hs) fun x s1 q1 => ?_
      split
      · exact ok_s q1
      · exact ok_n
    · split
      · exact ok_s hs
      · exact ok_n
    · refine ok_b (ia 0 s hs) fun x s1 q1 => ok_b (ib 0 s1 q1) fun y s2 q2 => ?_
      split
      · rename_i e
        split
        · refine ok_s (Q9_fld q2 e (fun z => ?_))
          have : (i.toNat ≠ 11009 ∧ i.toNat ≠ 11010) ∧ i.toNat ≠ 11015 := by simpa using h34
          omega
        · exact ok_n
      · exact ok_n
    · split
      · rename_i e
        exact ok_s (ia 0 s hs _ _ _ e)
      · exact ok_n
    · exact ok_b (ia 0 s hs) fun x s1 q1 => ok_s q1
    · refine ok_b (ia 0 s hs) fun x s1 q1 => ?_
      split
      · exact ib 0 s1 q1
      · exact ok_s q1
    · exact ok_l (fun t q => ok_s q) (fun t q => ib 0 t q) (fun t q => ok_s q) F s hs
    · exact ok_d (fun t q => ia 0 t q) (fun t q => ib 0 t q) F s hs
    · exact ok_s hs
    · exact ok_s hs
    · exact ok_b (ib 0 s hs) fun x s1 q1 => ok_s q1
    · exact ok_s hs
    · split
      · split
        · exact ok_n
        · exact ia 0 s hs
      · exact ib _ s hs
    · split
      · exact ok_q (ia 0 s hs) fun s1 q1 => ib 0 s1 q1
      · exact ib _ s hs
    · exact ok_s hs
    · refine ok_b (ia 0 s hs) fun x s1 q1 => ?_
      split
      · rename_i e
        refine ok_b (ib 0 s1 q1) fun y s2 q2 => ?_
        split
        · split
          · refine ok_s (Q9_put q2 (fun z => ?_))
            have := xob_k e
            rw [q1.2.1, z.1] at this
            have h1 : KK 158 = 21 := rfl
            have h2 : (i.toNat % 1000000 ≠ 11009 ∧ i.toNat % 1000000 ≠ 11010) ∧ i.toNat % 1000000 ≠ 11015 := by simpa using h54
            omega
          · exact ok_n
        · exact ok_n
      · exact ok_n
    · split
      · split
        · exact ok_s hs
        · exact ok_n
      · exact ok_n
    · exact ok_s hs
    · exact ok_b (ia 0 s hs) fun x s1 q1 => ok_a (ib 0 s1 q1) fun vs s2 q2 => ok_s q2
    · exact absurd hno (by decide)
    · exact absurd hno (by decide)
    · exact ok_n
  | .nil, _, _, _, _ => ok_n
  | .line, _, _, _, _ => ok_n
  | .align _, _, _, _, _ => ok_n
  | .text _, _, _, _, _ => ok_n
  | .append _ _, _, _, _, _ => ok_n
  | .nest _ _, _, _, _, _ => ok_n
  | .group .nil _, _, _, _, _ => ok_n
  | .group .line _, _, _, _, _ => ok_n
  | .group (.align _) _, _, _, _, _ => ok_n
  | .group (.text _) _, _, _, _, _ => ok_n
  | .group (.append _ _) _, _, _, _, _ => ok_n
  | .group (.nest _ _) _, _, _, _, _ => ok_n
  | .group (.group _ _) _, _, _, _, _ => ok_n
  | .group (.tag _ .nil) _, _, _, _, _ => ok_n
  | .group (.tag _ .line) _, _, _, _, _ => ok_n
  | .group (.tag _ (.align _)) _, _, _, _, _ => ok_n
  | .group (.tag _ (.text _)) _, _, _, _, _ => ok_n
  | .group (.tag _ (.append _ _)) _, _, _, _, _ => ok_n
  | .group (.tag _ (.group _ _)) _, _, _, _, _ => ok_n
  | .group (.tag _ (.tag _ _)) _, _, _, _, _ => ok_n
  | .group (.tag _ (.nest _ .nil)) _, _, _, _, _ => ok_n
  | .group (.tag _ (.nest _ .line)) _, _, _, _, _ => ok_n
  | .group (.tag _ (.nest _ (.align _))) _, _, _, _, _ => ok_n
  | .group (.tag _ (.nest _ (.text _))) _, _, _, _, _ => ok_n
  | .group (.tag _ (.nest _ (.nest _ _))) _, _, _, _, _ => ok_n
  | .group (.tag _ (.nest _ (.group _ _))) _, _, _, _, _ => ok_n
  | .group (.tag _ (.nest _ (.tag _ _))) _, _, _, _, _ => ok_n
  | .group (.tag _ (.nest _ (.append _ (.nil)))) _, _, _, _, _ => ok_n
  | .group (.tag _ (.nest _ (.append _ (.line)))) _, _, _, _, _ => ok_n
  | .group (.tag _ (.nest _ (.append _ (.align _)))) _, _, _, _, _ => ok_n
  | .group (.tag _ (.nest _ (.append _ (.text _)))) _, _, _, _, _ => ok_n
  | .group (.tag _ (.nest _ (.append _ (.nest _ _)))) _, _, _, _, _ => ok_n
  | .group (.tag _ (.nest _ (.append _ (.group _ _)))) _, _, _, _, _ => ok_n
  | .group (.tag _ (.nest _ (.append _ (.tag _ _)))) _, _, _, _, _ => ok_n
  | .tag _ (.nil), _, _, _, _ => ok_n
  | .tag _ (.line), _, _, _, _ => ok_n
  | .tag _ (.align _), _, _, _, _ => ok_n
  | .tag _ (.text _), _, _, _, _ => ok_n
  | .tag _ (.append _ _), _, _, _, _ => ok_n
  | .tag _ (.group _ _), _, _, _, _ => ok_n
  | .tag _ (.tag _ _), _, _, _, _ => ok_n
  | .tag _ (.nest _ (.nil)), _, _, _, _ => ok_n
  | .tag _ (.nest _ (.line)), _, _, _, _ => ok_n
  | .tag _ (.nest _ (.align _)), _, _, _, _ => ok_n
  | .tag _ (.nest _ (.text _)), _, _, _, _ => ok_n
  | .tag _ (.nest _ (.nest _ _)), _, _, _, _ => ok_n
  | .tag _ (.nest _ (.group _ _)), _, _, _, _ => ok_n
  | .tag _ (.nest _ (.tag _ _)), _, _, _, _ => ok_n
end EvOk9
theorem chk9_all : ((List.range 42).all fun j => (207 + j == 207) || (match pmt (207 + j) with
  | some x => chk9 okW x.2.2.2.2
  | none => false)) = true := by decide +kernel
theorem chk9_m {i : Nat} {x : Nat × List Nat × Nat × Nat × xT} (h : okW i = true) (h2 : i ≠ 207) (e : pmt i = some x) : chk9 okW x.2.2.2.2 = true := by
  have h1 : 207 ≤ i ∧ i ≤ 248 := by simpa [okW] using h
  have := List.all_eq_true.mp chk9_all (i - 207) (List.mem_range.mpr (by omega))
  rw [show 207 + (i - 207) = i from by omega, e] at this
  simp only [Bool.or_eq_true, beq_iff_eq] at this
  rcases this with z | z
  · exact absurd z h2
  · exact z
section E207
variable {ft : xF} {cl : Nat → List Int → xH → Option (List Int × xH)} {F S g : Nat} {f : Int → Int → Int → Prop} {i : Int} {a b : xT} {s : xS}
theorem e_34 : ev ft cl F S (nd 34 i a b) g s = xb (ev ft cl F S a 0 s) (fun x s1 => xb (ev ft cl F S b 0 s1) (fun y s2 => match xob s2.2 (i.toNat / 1000) x with
  | some p => if S ≤ p ∧ xfit (ft (i.toNat / 1000) (i.toNat % 1000)) y = true then some (0, [], (s2.1, hput s2.2 p (i.toNat % 1000) y)) else none
  | none => none)) := rfl
theorem e_38 : ev ft cl F S (nd 38 i a b) g s = xb (ev ft cl F S a 0 s) (fun x s1 => if x = 1 then ev ft cl F S b 0 s1 else some (0, [], s1)) := rfl
theorem ok_b2 {Q R : xH → Prop} {r : Option xR} {f : Int → xS → Option xR} (h1 : OkR Q r) (h2 : ∀ x s, Q s.2 → OkR R (f x s)) : OkR R (xb r f) := by
  intro c v s e
  unfold xb at e
  split at e
  · exact h2 _ _ (h1 _ _ _ rfl) c v s e
  · cases e
theorem ok_loc {Q : xH → Prop} (h : Q s.2) : OkR Q (ev ft cl F S (nd 2 i a b) g s) := fun c v s' e => by
  have : s' = s := loc_s e
  rw [this]
  exact h
theorem ok_w {Q : xH → Prop} (h : OkR (Q9 fun b _ _ => b = 1) (ev ft cl F S a g s)) (hw : ∀ x, Q9 (fun b _ _ => b = 1) x → Q x) : OkR Q (ev ft cl F S a g s) := fun c v s' e => hw _ (h c v s' e)
theorem w_15 (Q : Q9 f s.2) : OkR (Q9 fun b _ _ => b = 1) (ev ft cl F S (nd 34 11015 (nd 2 2 xz xz) (nd 0 1 xz xz)) 0 s) := by
  rw [e_34]
  refine ok_b2 (Q := Q9 f) (ok_loc Q) fun x s1 q1 => ?_
  rw [e_0]
  intro c v s' e
  have e2 : (match xob s1.2 11 x with
    | some p => if S ≤ p ∧ xfit (ft 11 15) 1 = true then some (0, [], (s1.1, hput s1.2 p 15 1)) else none
    | none => none) = some (c, v, s') := e
  split at e2
  · rename_i p hp
    split at e2
    · cases e2
      have k := xob_k hp
      have hp8 : p = 158 := by
        unfold xob at hp
        split at hp
        · rename_i z
          cases hp
          rw [q1.2.1] at k
          exact KK_u (by have := z.2.1; rw [q1.1] at this; omega) k
        · cases hp
      subst hp8
      exact ⟨q1.1, q1.2.1, rfl⟩
    · cases e2
  · cases e2
theorem w_9 {k : Int} (hk : k.toNat % 1000 ≠ 15) (Q : Q9 (fun b _ _ => b = 1) s.2) : OkR (Q9 fun b _ _ => b = 1) (ev ft cl F S (nd 34 k (nd 2 2 xz xz) (nd 2 i xz xz)) 0 s) := by
  rw [e_34]
  refine ok_b (ok_loc Q) fun x s1 q1 => ok_b (ok_loc q1) fun y s2 q2 => ?_
  split
  · rename_i p hp
    split
    · refine ok_s ⟨q2.1, q2.2.1, ?_⟩
      show (if 158 = p then (if 15 = k.toNat % 1000 then y else s2.2.2.2.2 158 15) else s2.2.2.2.2 158 15) = 1
      rw [if_neg (show ¬ 15 = k.toNat % 1000 from fun z => hk z.symm)]
      split <;> exact q2.2.2
    · exact ok_n
  · exact ok_n
theorem ev_207 {X Y : Int} (Q : Q9 (fun b x y => b = 1 ∨ x = X ∧ y = Y) s.2) : OkR (Q9 fun b x y => b = 1 ∨ x = X ∧ y = Y) (ev ft cl F S tr_207 0 s) := by
  unfold tr_207
  rw [e_31]
  refine ok_q ?_ fun s1 q1 => ?_
  · rw [e_38]
    refine ok_b (ev_ok9 (ok := fun _ => false) (fun i vs h r h' x1 => by cases x1) _ (by rfl) 0 s Q) fun x s1 q1 => ?_
    split
    · refine ok_w ?_ (fun x h => ⟨h.1, h.2.1, Or.inl h.2.2⟩)
      rw [e_31]
      refine ok_q (w_15 q1) fun s2 q2 => ?_
      rw [e_31]
      exact ok_q (w_9 (by decide) q2) fun s3 q3 => w_9 (by decide) q3
    · exact ok_s q1
  · rw [e_48]
    exact ok_s q1
end E207
theorem pm_207 : ∃ a b c d, pmt 207 = some (a, b, c, d, tr_207) := ⟨_, _, _, _, rfl⟩
theorem Cx_keep9 {F : Nat} {X Y : Int} : ∀ (d i : Nat) (vs : List Int) (h : xH) (r : List Int) (h' : xH), okW i = true → Q9 (fun b x y => b = 1 ∨ x = X ∧ y = Y) h → xcall pft pmt F pS d i vs h = some (r, h') → Q9 (fun b x y => b = 1 ∨ x = X ∧ y = Y) h' := by
  intro d
  induction d with
  | zero => intro i vs h r h' hi Q e; cases e
  | succ d ih =>
    intro i vs h r h' hi Q e
    unfold xcall at e
    split at e
    · rename_i nL ts rc rt t hm
      split at e
      · split at e
        · rename_i r1 s1 e1
          split at e
          · cases e
            by_cases h207 : i = 207
            · subst h207
              obtain ⟨a, b, c, dd, hq⟩ := pm_207
              rw [hq] at hm
              cases hm
              exact ev_207 (s := (_, h)) Q _ _ _ e1
            · exact ev_ok9 (ok := okW) (fun i vs h r h' x1 x2 x3 => ih i vs h r h' x1 x2 x3) t (chk9_m hi h207 hm) 0 (_, h) Q _ _ _ e1
          · cases e
        · cases e
      · cases e
    · cases e
theorem W_9 {F L d : Nat} {xs : Nat → Int32} {m m' : Mem} {r : List Int} (h : m' 158 15 = 0) (e : Cx F d 220 [158] (Hp L xs m) = some (r, Hp L xs m')) : m' 158 9 = m 158 9 ∧ m' 158 10 = m 158 10 := by
  have Q : Q9 (fun b x y => b = 1 ∨ x = m 158 9 ∧ y = m 158 10) (Hp L xs m) := ⟨rfl, rfl, Or.inr ⟨rfl, rfl⟩⟩
  obtain ⟨_, _, q⟩ := Cx_keep9 d 220 [158] _ _ _ (by rfl) Q e
  rcases q with z | z
  · have z' : m' 158 15 = 1 := z
    omega
  · exact z
