/-! WHAT A TREE DOES ON THE SECOND MACHINE -/
def tb (r : Option tR) (f : Int → tS → Option tR) : Option tR := match r with
  | some (0, [x], s) => f x s
  | _ => none
def ta (r : Option tR) (f : List Int → tS → Option tR) : Option tR := match r with
  | some (0, vs, s) => f vs s
  | _ => none
def tq (r : Option tR) (f : tS → Option tR) : Option tR := match r with
  | some (0, _, s) => f s
  | some (c + 1, v, s) => some (c + 1, v, s)
  | none => none
def tnz (r : Option tR) : Option tR := match r with
  | some (0, _, _) => none
  | r => r
def txl (c b u : tS → Option tR) : Nat → tS → Option tR
  | 0, _ => none
  | n + 1, s => match c s with
    | some (0, [1], s1) => match b s1 with
      | some (0, _, s2) | some (2, _, s2) => match u s2 with
        | some (0, _, s3) => txl c b u n s3
        | _ => none
      | some (1, _, s2) => some (0, [], s2)
      | some (3, v, s2) => some (3, v, s2)
      | _ => none
    | some (0, [0], s1) => some (0, [], s1)
    | _ => none
def tcp (src sp dst dp : Nat) : Nat → tT → (tT → Option tR) → Option tR
  | 0, T, K => K T
  | m + 1, T, K => tcp src sp dst dp m T fun T1 => tput T1 dst (dp + m) (tM T1 src (sp + m)) K
/-- results that agree -/
def Rs (L : Nat) (xs : Nat → Int32) (s : xS) (s' : tS) : Prop := s.1 = s'.1 ∧ Rh L xs s.2 s'.2.1 s'.2.2
def RR (L : Nat) (xs : Nat → Int32) (r : Option xR) (r' : Option tR) : Prop := ∀ c v s', r' = some (c, v, s') → ∃ s, r = some (c, v, s) ∧ Rs L xs s s'
section RRs
variable {L : Nat} {xs : Nat → Int32} {r r1 : Option xR} {r' r1' : Option tR} {s : xS} {s' : tS}
theorem rr_s {c : Nat} {v : List Int} (h : Rs L xs s s') : RR L xs (some (c, v, s)) (some (c, v, s')) := fun _ _ _ e => by cases e; exact ⟨s, rfl, h⟩
theorem rr_n : RR L xs r none := fun _ _ _ e => by cases e
theorem rr_if {p : Prop} [Decidable p] (h1 : p → RR L xs r r') (h2 : ¬ p → RR L xs r1 r1') : RR L xs (if p then r else r1) (if p then r' else r1') := by
  by_cases hp : p
  · rw [if_pos hp, if_pos hp]; exact h1 hp
  · rw [if_neg hp, if_neg hp]; exact h2 hp
theorem rr_b {f : Int → xS → Option xR} {f' : Int → tS → Option tR} (h : RR L xs r r') (hf : ∀ x s s', Rs L xs s s' → RR L xs (f x s) (f' x s')) : RR L xs (xb r f) (tb r' f') := by
  intro c v s2 e
  unfold tb at e
  split at e
  · obtain ⟨s1, e1, e2⟩ := h _ _ _ rfl
    rw [e1]
    exact hf _ _ _ e2 _ _ _ e
  · cases e
theorem rr_a {f : List Int → xS → Option xR} {f' : List Int → tS → Option tR} (h : RR L xs r r') (hf : ∀ x s s', Rs L xs s s' → RR L xs (f x s) (f' x s')) : RR L xs (xa r f) (ta r' f') := by
  intro c v s2 e
  unfold ta at e
  split at e
  · obtain ⟨s1, e1, e2⟩ := h _ _ _ rfl
    rw [e1]
    exact hf _ _ _ e2 _ _ _ e
  · cases e
theorem rr_q {f : xS → Option xR} {f' : tS → Option tR} (h : RR L xs r r') (hf : ∀ s s', Rs L xs s s' → RR L xs (f s) (f' s')) : RR L xs (xq r f) (tq r' f') := by
  intro c v s2 e
  unfold tq at e
  split at e
  · obtain ⟨s1, e1, e2⟩ := h _ _ _ rfl
    rw [e1]
    exact hf _ _ e2 _ _ _ e
  · obtain ⟨s1, e1, e2⟩ := h _ _ _ rfl
    rw [e1]
    cases e
    exact ⟨s1, rfl, e2⟩
  · cases e
theorem rr_nz (h : RR L xs r r') : RR L xs (nz r) (tnz r') := by
  intro c v s2 e
  unfold tnz at e
  split at e
  · cases e
  · rename_i hne
    obtain ⟨s1, e1, e2⟩ := h _ _ _ e
    rw [e1]
    cases c with
    | zero => exact (hne _ _ e).elim
    | succ c => exact ⟨s1, rfl, e2⟩
theorem rr_l {c b u : xS → Option xR} {c' b' u' : tS → Option tR} (hc : ∀ s s', Rs L xs s s' → RR L xs (c s) (c' s')) (hb : ∀ s s', Rs L xs s s' → RR L xs (b s) (b' s')) (hu : ∀ s s', Rs L xs s s' → RR L xs (u s) (u' s')) : ∀ n s s', Rs L xs s s' → RR L xs (xloop c b u n s) (txl c' b' u' n s') := by
  intro n
  induction n with
  | zero => intro s s' _; exact rr_n
  | succ n ih =>
    intro s s' hs k v s2 e
    unfold txl at e
    split at e
    · rename_i s1 e1
      obtain ⟨t1, f1, g1⟩ := hc _ _ hs _ _ _ e1
      split at e
      · rename_i v2 s3 e2
        obtain ⟨t2, f2, g2⟩ := hb _ _ g1 _ _ _ e2
        split at e
        · rename_i v3 s4 e3
          obtain ⟨t3, f3, g3⟩ := hu _ _ g2 _ _ _ e3
          obtain ⟨t4, f4, g4⟩ := ih _ _ g3 _ _ _ e
          refine ⟨t4, ?_, g4⟩
          unfold xloop
          simp only [f1, f2, f3]
          exact f4
        · cases e
      · rename_i v2 s3 e2
        obtain ⟨t2, f2, g2⟩ := hb _ _ g1 _ _ _ e2
        split at e
        · rename_i v3 s4 e3
          obtain ⟨t3, f3, g3⟩ := hu _ _ g2 _ _ _ e3
          obtain ⟨t4, f4, g4⟩ := ih _ _ g3 _ _ _ e
          refine ⟨t4, ?_, g4⟩
          unfold xloop
          simp only [f1, f2, f3]
          exact f4
        · cases e
      · rename_i v2 s3 e2
        obtain ⟨t2, f2, g2⟩ := hb _ _ g1 _ _ _ e2
        cases e
        refine ⟨t2, ?_, g2⟩
        unfold xloop
        simp only [f1, f2]
      · rename_i v2 s3 e2
        obtain ⟨t2, f2, g2⟩ := hb _ _ g1 _ _ _ e2
        cases e
        refine ⟨t2, ?_, g2⟩
        unfold xloop
        simp only [f1, f2]
      · cases e
    · rename_i s1 e1
      obtain ⟨t1, f1, g1⟩ := hc _ _ hs _ _ _ e1
      cases e
      refine ⟨t1, ?_, g1⟩
      unfold xloop
      simp only [f1]
    · cases e
theorem rr_put {h : xH} {n : Nat} {T : tT} {p q : Nat} {v : Int} {K : tT → Option tR} (H : Rh L xs h n T) (hp : p < n) (hk : pS ≤ p → ∀ T', Rh L xs (hput h p q v) n T' → RR L xs r (K T')) : RR L xs (if pS ≤ p then r else none) (tput T p q v K) := by
  intro c w s2 e
  obtain ⟨h1, T', h2, h3⟩ := tput_ok H hp e
  rw [if_pos h1]
  exact hk h1 T' h3 _ _ _ h2
theorem rr_new {h : xH} {n : Nat} {T : tT} {kd ln : Nat} {K : tT → Option tR} (H : Rh L xs h n T) (hk : ∀ T', Rh L xs (hnew pft h kd ln) (n + 1) T' → RR L xs r (K T')) : RR L xs r (tnew n T kd ln K) := by
  intro c w s2 e
  obtain ⟨T', h2, h3⟩ := tnew_ok H e
  exact hk T' h3 _ _ _ h2
theorem hrow_eq {h : xH} {a : Nat} {f g : Nat → Int} (e : ∀ j, f j = g j) : hrow h a f = hrow h a g := by rw [show f = g from funext e]
theorem tcp_ok {h : xH} {n : Nat} {T : tT} {src sp dst dp : Nat} (H : Rh L xs h n T) (hs : src < n) (hs0 : src ≠ 0) (hd : dst < n) (hne : src ≠ dst) (hd5 : 50 ≤ dst) (r : tR) : ∀ (m : Nat) (K : tT → Option tR), tcp src sp dst dp m T K = some r → ∃ T', K T' = some r ∧ Rh L xs (hrow h dst (fun j => if dp ≤ j ∧ j < dp + m then h.2.2.2 src (sp + (j - dp)) else h.2.2.2 dst j)) n T' := by
  intro m
  induction m with
  | zero =>
    intro K e
    refine ⟨T, e, ?_⟩
    have : hrow h dst (fun j => if dp ≤ j ∧ j < dp + 0 then h.2.2.2 src (sp + (j - dp)) else h.2.2.2 dst j) = h := by
      unfold hrow
      have : (fun a' k' => if a' = dst then (if dp ≤ k' ∧ k' < dp + 0 then h.2.2.2 src (sp + (k' - dp)) else h.2.2.2 dst k') else h.2.2.2 a' k') = h.2.2.2 := by
        funext a k
        by_cases z : a = dst
        · rw [if_pos z, if_neg (by omega), z]
        · rw [if_neg z]
      rw [this]
    rw [this]
    exact H
  | succ m ih =>
    intro K e
    obtain ⟨T1, e1, h1⟩ := ih _ e
    obtain ⟨_, T2, e2, h2⟩ := tput_ok h1 hd e1
    refine ⟨T2, e2, ?_⟩
    have hv : tM T1 src (sp + m) = h.2.2.2 src (sp + m) := by
      rw [← (h1.2.2.1 src hs hs0).2.2]
      show (if src = dst then _ else _) = _
      rw [if_neg hne]
    rw [hv] at h2
    have e3 : hput (hrow h dst (fun j => if dp ≤ j ∧ j < dp + m then h.2.2.2 src (sp + (j - dp)) else h.2.2.2 dst j)) dst (dp + m) (h.2.2.2 src (sp + m)) = hrow h dst (fun j => if dp ≤ j ∧ j < dp + (m + 1) then h.2.2.2 src (sp + (j - dp)) else h.2.2.2 dst j) := by
      unfold hput hrow
      congr 3
      funext a k
      by_cases z : a = dst
      · simp only [if_pos z]
        by_cases zk : k = dp + m
        · rw [if_pos zk, if_pos (by omega), zk, show dp + m - dp = m by omega]
        · rw [if_neg zk]
          by_cases zz : dp ≤ k ∧ k < dp + m
          · rw [if_pos zz, if_pos (by omega)]
          · rw [if_neg zz, if_neg (by omega)]
      · simp only [if_neg z]
    rw [e3] at h2
    exact h2
end RRs
