/-! THE MODEL LAYS UNTIL NO FLAG CHANGES -/
theorem pv_pv {Q Q2 : Nat → Int} {c c2 : Int} {X : Mem} : pv Q2 c2 (pv Q c X) = pv Q2 c2 X := by
  funext a k
  unfold pv
  by_cases h : a = 180
  · rw [if_pos h, if_pos h]
  · rw [if_neg h, if_neg h]
    by_cases h2 : a = 158
    · rw [if_pos h2, if_pos h2]
      by_cases h3 : k = 85
      · rw [if_pos h3, if_pos h3, if_neg h, if_pos h2]
      · rw [if_neg h3, if_neg h3, if_neg h, if_pos h2, if_neg h3]
    · rw [if_neg h2, if_neg h2, if_neg h, if_neg h2]
theorem cq_pv {Q : Nat → Int} {c c0 : Int} {X : Mem} : ∀ i, cq (pv Q c X) c0 i = cq X c0 i
  | 0 => rfl
  | i + 1 => by
    show (if X 177 i = 0 then X 178 i else cq (pv Q c X) c0 i) = if X 177 i = 0 then X 178 i else cq X c0 i
    rw [cq_pv i]
theorem mlI_pv {Q : Nat → Int} {c c0 : Int} {X : Mem} : ∀ i, mlI (pv Q c X) c0 i = mlI X c0 i
  | 0 => rfl
  | i + 1 => by
    show mlI (pv Q c X) c0 i ++ dM (pv Q c X) c0 (ngo (mlI (pv Q c X) c0 i)) i = mlI X c0 i ++ dM X c0 (ngo (mlI X c0 i)) i
    rw [mlI_pv i]
    unfold dM
    rw [cq_pv, pv_pv]
theorem pv_83 {Q : Nat → Int} {c v : Int} {X : Mem} {k : Nat} (hk : k ≠ 85) : put (pv Q c X) 158 k v = pv Q c (put X 158 k v) := by
  funext a q
  rw [put_ss]
  unfold pv
  rw [put_ss]
  by_cases h : a = 158
  · have h2 : ¬ a = 180 := by omega
    rw [if_pos h, if_neg h2, if_neg h2, if_pos h, if_pos h, if_pos h]
    by_cases h3 : q = k
    · rw [if_pos h3, if_neg (by omega), if_pos h3]
    · rw [if_neg h3, if_neg h3]
  · rw [if_neg h, if_neg h, if_neg h, if_neg h]
theorem fv_83 {E : Nat → Int} {v : Int} {X : Mem} {k : Nat} : put (fv E X) 158 k v = fv E (put X 158 k v) := by
  funext a q
  rw [put_ss]
  unfold fv
  rw [put_ss]
  by_cases h : a = 158
  · have h2 : ¬ a = 198 := by omega
    rw [if_pos h, if_neg h2, if_neg h2, if_pos h]
  · rw [if_neg h, if_neg h]
theorem fv_lyd {T : mSt} {Q E E2 : Nat → Int} {M : Mem} {e : Int} {n : Nat} : fv E2 (lyd T Q M E e n) = my (mI (itA M E e n) (rs T)) (pv (plq 82 (fv E M) 0 Q n) (cq (fv E M) 0 n) (fv E2 M)) := by
  funext a k
  unfold lyd
  generalize mI (itA M E e n) (rs T) = T2
  generalize plq 82 (fv E M) 0 Q n = Q2
  generalize cq (fv E M) 0 n = c2
  by_cases h : a = 198
  · subst h
    rfl
  · have e1 : fv E M a k = fv E2 M a k := by rw [fv_o h, fv_o h]
    rw [fv_o h]
    unfold my pv
    rw [e1]
def zc (E : Nat → Int) : Nat → Nat
  | 0 => 0
  | k + 1 => zc E k + (if E k = 0 then 1 else 0)
theorem zc_le {E E2 : Nat → Int} (h : ∀ q, E2 q = 0 → E q = 0) : ∀ k, zc E2 k ≤ zc E k
  | 0 => Nat.le_refl _
  | k + 1 => by
    have ih := zc_le h k
    show zc E2 k + (if E2 k = 0 then 1 else 0) ≤ zc E k + (if E k = 0 then 1 else 0)
    by_cases c : E2 k = 0
    · rw [if_pos c, if_pos (h k c)]
      omega
    · rw [if_neg c]
      omega
theorem zc_lt {E E2 : Nat → Int} (h : ∀ q, E2 q = 0 → E q = 0) {q0 : Nat} (h0 : E q0 = 0) (h1 : E2 q0 ≠ 0) : ∀ k, q0 < k → zc E2 k < zc E k
  | 0 => fun a => absurd a (Nat.not_lt_zero _)
  | k + 1 => fun a => by
    show zc E2 k + (if E2 k = 0 then 1 else 0) < zc E k + (if E k = 0 then 1 else 0)
    by_cases c : q0 = k
    · subst c
      rw [if_neg h1, if_pos h0]
      have := zc_le h q0
      omega
    · have ih := zc_lt h h0 h1 k (by omega)
      by_cases c2 : E2 k = 0
      · rw [if_pos c2, if_pos (h k c2)]
        omega
      · rw [if_neg c2]
        omega
def gsm (M : Mem) : Nat → Nat
  | 0 => 0
  | i + 1 => gsm M i + gNo (M 177 i)
theorem ngo_ml {M : Mem} {n : Nat} (hO : OK0 M n) : ∀ i, i ≤ n → ngo (mlI M 0 i) = gsm M i
  | 0 => fun _ => rfl
  | i + 1 => fun hi => by
    obtain ⟨o1, o2, o3, o4, o5, o6⟩ := hO i (by omega)
    show ngo (mlI M 0 i ++ dM M 0 (ngo (mlI M 0 i)) i) = gsm M i + gNo (M 177 i)
    have z : ngo (dM M 0 (ngo (mlI M 0 i)) i) = gNo (M 177 i) := itO_g o1 o4
    rw [ngo_app, z, ngo_ml hO i (by omega)]
theorem gsm_f {M : Mem} {E : Nat → Int} : ∀ i, gsm (fv E M) i = gsm M i
  | 0 => rfl
  | i + 1 => by
    show gsm (fv E M) i + gNo (M 177 i) = gsm M i + gNo (M 177 i)
    rw [gsm_f i]
theorem ngo_A {M : Mem} {E : Nat → Int} {e : Int} {n : Nat} (hO : OK0 M n) : ngo (itA M E e n) = gsm M n := by
  unfold itA
  rw [ngo_app, hdI_g.1, Nat.zero_add, ngo_ml (M := fv E M) hO n (Nat.le_refl _), gsm_f]
theorem gsm_b {M : Mem} : ∀ i, gsm M i ≤ 2 * i
  | 0 => Nat.le_refl _
  | i + 1 => by
    have := gsm_b (M := M) i
    have e3 : gNo (M 177 i) ≤ 2 := by
      unfold gNo
      split
      · exact Nat.le_refl _
      · split <;> decide
    show gsm M i + gNo (M 177 i) ≤ _
    omega
theorem GoOk_b {ga gt : Nat → Int} {B : Int} : ∀ (l : List It) (A : Int) (k : Nat), 0 ≤ A → GoOk ga gt l A (k : Int) → (∀ i, i ∈ l → isG i → 0 ≤ i.2.2 ∧ i.2.2 < B) → ∀ q, k ≤ q → q < k + ngo l → (0 ≤ ga q ∧ ga q < A + l.length) ∧ (0 ≤ gt q ∧ gt q < B)
  | [], A, k => fun _ _ _ q a b => by
    have : ngo ([] : List It) = 0 := rfl
    omega
  | i :: l, A, k => fun h0 hG hL q a b => by
    have en : ngo (i :: l) = (if isG i then 1 else 0) + ngo l := rfl
    have el : (((i :: l).length : Nat) : Int) = (l.length : Int) + 1 := rfl
    obtain ⟨G1, G2⟩ := hG
    rw [en] at b
    rw [el]
    by_cases hg : isG i
    · rw [if_pos hg] at b G2
      obtain ⟨u, v⟩ := G1 hg
      rw [Int.toNat_natCast] at u v
      by_cases c : q = k
      · subst c
        have := hL i (List.mem_cons_self ..) hg
        rw [u, v]
        exact ⟨⟨by omega, by omega⟩, this⟩
      · have ih := GoOk_b (B := B) l (A + 1) (k + 1) (by omega) G2 (fun j hj => hL j (List.mem_cons_of_mem _ hj)) q (by omega) (by omega)
        exact ⟨⟨ih.1.1, by omega⟩, ih.2⟩
    · rw [if_neg hg] at b G2
      have ih := GoOk_b (B := B) l (A + 1) k (by omega) G2 (fun j hj => hL j (List.mem_cons_of_mem _ hj)) q (by omega) (by omega)
      exact ⟨⟨ih.1.1, by omega⟩, ih.2⟩
theorem st_01 {M : Mem} {e : Int} {n : Nat} {E : Nat → Int} (h : b01 E) : b01 (stE M e n E) := fun q => by
  unfold stE
  split
  · exact Or.inr rfl
  · exact h q
theorem st_zc {M : Mem} {e : Int} {n : Nat} {E : Nat → Int} (hO : OK0 M n) (hE : b01 E) (hL : ∀ i, i ∈ itA M E e n → isG i → 0 ≤ i.2.2 ∧ i.2.2 < n) (hc : chE M e n E = true) : zc (stE M e n E) (gsm M n) < zc E (gsm M n) := by
  obtain ⟨q, a, b⟩ := (cX_go (P := pA M E n) (itA M E e n) 0).mp hc
  have z := (bad_go (T := (0, fun _ => 0, 0, fun _ => 0, fun _ => 0, 0, fun _ => 0, fun _ => 0)) (Q := fun _ => 0) hO hE hL a).mpr b
  rw [ngo_A hO] at a
  refine zc_lt (fun p hp => ?_) z.1 (fun w => ?_) _ a
  · unfold stE at hp
    by_cases c : goX (pA M E n) (itA M E e n) 0 p = true
    · rw [if_pos c] at hp
      exact absurd hp (by decide)
    · rw [if_neg c] at hp
      exact hp
  · unfold stE at w
    rw [if_pos b] at w
    exact absurd w (by decide)
def itr (M : Mem) (e : Int) (n : Nat) : Nat → (Nat → Int) → (Nat → Int)
  | 0, E => E
  | k + 1, E => if chE M e n E = true then itr M e n k (stE M e n E) else E
/-- what must hold of the orders that the model lays -/
def LM (M : Mem) (e : Int) (n : Nat) : Prop := OK0 M n ∧ M 158 41 = (n : Int) ∧ (1 ≤ n ∧ n ≤ 3000) ∧ M 177 0 = 0 ∧ (∀ Q c E, b01 E → 0 ≤ c → c < 1600 → MX (pv Q c (fv E M))) ∧ (∀ E, b01 E → ∀ i, i ≤ n → 82 + ((mlI (fv E M) 0 i).length : Int) ≤ 60000) ∧ (∀ E, b01 E → ∀ i, i ∈ itA M E e n → isG i → 0 ≤ i.2.2 ∧ i.2.2 < n)
section Mor
variable {F L d : Nat} {xs : Nat → Int32} {main : Int}
theorem M_287x {M M0 : Mem} {e : Int} {n : Nat} {T : mSt} {Q E : Nat → Int} {c : Int} (hF : 100000 ≤ F) (K : LM M e n) (hM : put (put M0 158 83 8) 158 84 38 = M) (hm : 0 ≤ main ∧ main < 1600) (he : M 182 main.toNat = e) (hE : b01 E) (hc : 0 ≤ c ∧ c < 1600) : Cx F (d + 20) 287 [158, main] (Hp L xs (my T (pv Q c (fv E M0)))) = some ([], Hp L xs (lyd T Q M E e n)) := by
  obtain ⟨hO, hn, hn3, h0, hX, hB, hL⟩ := K
  have hM2 : put (put (pv Q c (fv E M0)) 158 83 8) 158 84 38 = pv Q c (fv E M) := by
    rw [pv_83 (by decide), pv_83 (by decide), fv_83, fv_83, hM]
  have ec : pv Q c (fv E M) 158 85 = c := rfl
  have em : ∀ i, mlI (pv Q c (fv E M)) (pv Q c (fv E M) 158 85) i = mlI (fv E M) 0 i := fun i => by
    rw [ec, mlI_pv]
    exact mlI_c (m := fv E M) h0 i
  have z := M_287 (F := F) (L := L) (d := d) (xs := xs) (main := main) (T := T) (n := n) hM2 hF hm hO hn (by omega) hc (fun Q2 c2 a b => by rw [pv_pv]; exact hX Q2 c2 E hE a b) (fun i hi => by rw [em]; exact hB E hE i hi)
  have e182 : pv Q c (fv E M0) 182 main.toNat = e := by
    rw [← he, ← hM]
    rfl
  have e1 : mI (mlI (fv E M) 0 n) (mI (hdI e) (rs T)) = mI (itA M E e n) (rs T) := mI_app _ _ _
  have e2 : plq 82 (pv Q c (fv E M)) (pv Q c (fv E M) 158 85) (pv Q c (fv E M) 180) n = plq 82 (fv E M) 0 Q n := by
    funext q
    unfold plq
    rw [em]
    rfl
  have e3 : cq (pv Q c (fv E M)) (pv Q c (fv E M) 158 85) n = cq (fv E M) 0 n := by
    obtain ⟨n, rfl⟩ : ∃ n', n = n' + 1 := ⟨n - 1, by omega⟩
    rw [cq_pv]
    exact cq_c (m := fv E M) h0 n
  rw [em, e182, e1, e2, e3, pv_pv] at z
  exact z
end Mor
