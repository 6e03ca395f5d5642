/-! AT THE START -/
section Ini
variable {m : Mem}
theorem INv_0 (h : ∀ a k, 50 ≤ a → a < 331 → m a k = m0 a k) : INv 0 m := by
  have f : ∀ {a k : Nat} {v : Int}, (a, k, v) ∈ fL → 50 ≤ a → a < 331 → m a k = v := fun g h1 h2 => (h _ _ h1 h2).trans (m0_f g)
  have z : ∀ {a : Nat} (k : Nat), a ∈ zL → 50 ≤ a → a < 331 → m a k = 0 := fun k g h1 h2 => (h _ k h1 h2).trans (m0_z g (by omega) k)
  have i7 : m 50 7 = 83 := f (by decide) (by omega) (by omega)
  have i8 : m 50 8 = 93 := f (by decide) (by omega) (by omega)
  have i9 : m 50 9 = 0 := f (by decide) (by omega) (by omega)
  have t1 : m 51 1 = 0 := f (by decide) (by omega) (by omega)
  have t2 : m 158 1 = 0 := f (by decide) (by omega) (by omega)
  have u7 : m 68 7 = 0 := f (by decide) (by omega) (by omega)
  have u8 : m 68 8 = 0 := f (by decide) (by omega) (by omega)
  have l3 : m 71 3 = 0 := f (by decide) (by omega) (by omega)
  have l5 : m 71 5 = 0 := f (by decide) (by omega) (by omega)
  have l6 : m 71 6 = 0 := f (by decide) (by omega) (by omega)
  have w0 : m 73 0 = 4104 := f (by decide) (by omega) (by omega)
  have w1 : m 73 1 = 90 := f (by decide) (by omega) (by omega)
  have w6 : m 73 6 = 0 := f (by decide) (by omega) (by omega)
  have g2 : m 78 2 = 0 := f (by decide) (by omega) (by omega)
  have g3 : m 78 3 = 0 := f (by decide) (by omega) (by omega)
  have g4 : m 78 4 = 0 := f (by decide) (by omega) (by omega)
  have g5 : m 78 5 = 0 := f (by decide) (by omega) (by omega)
  have g6 : m 78 6 = 0 := f (by decide) (by omega) (by omega)
  have g8 : m 78 8 = 0 := f (by decide) (by omega) (by omega)
  have g9 : m 78 9 = 0 := f (by decide) (by omega) (by omega)
  have g11 : m 78 11 = 0 := f (by decide) (by omega) (by omega)
  have g12 : m 78 12 = 0 := f (by decide) (by omega) (by omega)
  have g13 : m 78 13 = 0 := f (by decide) (by omega) (by omega)
  have c0 : m 83 0 = 0 := f (by decide) (by omega) (by omega)
  have c5 : m 83 5 = 0 := f (by decide) (by omega) (by omega)
  have c10 : m 83 10 = 0 := f (by decide) (by omega) (by omega)
  have c11 : m 83 11 = 0 := f (by decide) (by omega) (by omega)
  have c12 : m 83 12 = 0 := f (by decide) (by omega) (by omega)
  have d12 : m 93 12 = 0 := f (by decide) (by omega) (by omega)
  have e11 : m 158 11 = 0 := f (by decide) (by omega) (by omega)
  have e54 : m 158 54 = 0 := f (by decide) (by omega) (by omega)
  have e85 : m 158 85 = 0 := f (by decide) (by omega) (by omega)
  have e86 : m 158 86 = 4104 := f (by decide) (by omega) (by omega)
  have e91 : m 158 91 = 90 := f (by decide) (by omega) (by omega)
  have x95 : m 158 95 = 0 := f (by decide) (by omega) (by omega)
  have x96 : m 158 96 = 0 := f (by decide) (by omega) (by omega)
  have x97 : m 158 97 = 0 := f (by decide) (by omega) (by omega)
  have x98 : m 158 98 = 0 := f (by decide) (by omega) (by omega)
  have x99 : m 158 99 = 0 := f (by decide) (by omega) (by omega)
  have x100 : m 158 100 = 0 := f (by decide) (by omega) (by omega)
  have x101 : m 158 101 = 0 := f (by decide) (by omega) (by omega)
  have x103 : m 158 103 = 0 := f (by decide) (by omega) (by omega)
  have x104 : m 158 104 = 0 := f (by decide) (by omega) (by omega)
  have x106 : m 158 106 = 0 := f (by decide) (by omega) (by omega)
  have z72 : ∀ k, m 72 k = 0 := fun k => z k (by decide) (by omega) (by omega)
  have z77 : ∀ k, m 77 k = 0 := fun k => z k (by decide) (by omega) (by omega)
  have z79 : ∀ k, m 79 k = 0 := fun k => z k (by decide) (by omega) (by omega)
  have z80 : ∀ k, m 80 k = 0 := fun k => z k (by decide) (by omega) (by omega)
  have z81 : ∀ k, m 81 k = 0 := fun k => z k (by decide) (by omega) (by omega)
  have z82 : ∀ k, m 82 k = 0 := fun k => z k (by decide) (by omega) (by omega)
  have z87 : ∀ k, m 87 k = 0 := fun k => z k (by decide) (by omega) (by omega)
  have z88 : ∀ k, m 88 k = 0 := fun k => z k (by decide) (by omega) (by omega)
  have z97 : ∀ k, m 97 k = 0 := fun k => z k (by decide) (by omega) (by omega)
  have z98 : ∀ k, m 98 k = 0 := fun k => z k (by decide) (by omega) (by omega)
  have z169 : ∀ k, m 169 k = 0 := fun k => z k (by decide) (by omega) (by omega)
  have z180 : ∀ k, m 180 k = 0 := fun k => z k (by decide) (by omega) (by omega)
  have z198 : ∀ k, m 198 k = 0 := fun k => z k (by decide) (by omega) (by omega)
  have z206 : ∀ k, m 206 k = 0 := fun k => z k (by decide) (by omega) (by omega)
  have z207 : ∀ k, m 207 k = 0 := fun k => z k (by decide) (by omega) (by omega)
  have z208 : ∀ k, m 208 k = 0 := fun k => z k (by decide) (by omega) (by omega)
  have z209 : ∀ k, m 209 k = 0 := fun k => z k (by decide) (by omega) (by omega)
  have z216 : ∀ k, m 216 k = 0 := fun k => z k (by decide) (by omega) (by omega)
  have n74 : ∀ j, m 74 j = (pku 32 (cTf 74) j : Int) := fun j => (h 74 j (by omega) (by omega)).trans (net_m j).1
  have n75 : ∀ j, m 75 j = (pku 32 (cTf 75) j : Int) := fun j => (h 75 j (by omega) (by omega)).trans (net_m j).2.1
  have n201 : ∀ j, m 201 j = (pku 32 (cTf 201) j : Int) := fun j => (h 201 j (by omega) (by omega)).trans (net_m j).2.2.1
  have n202 : ∀ j, m 202 j = (pku 32 (cTf 202) j : Int) := fun j => (h 202 j (by omega) (by omega)).trans (net_m j).2.2.2
  have ly : ∀ cd, cd = 83 ∨ cd = 93 → (∀ k, m (cd + 4) k = 0) → m cd 12 = 0 → LyB m cd := fun cd _ h4 h12 => by
    refine ⟨fun k => ?_, fun k => ?_, ?_, ?_, ?_, ?_⟩
    · rw [z72]; omega
    · rw [h4]; omega
    · rw [l5]; omega
    · rw [l6]; omega
    · rw [l3]; omega
    · rw [h12]; omega
  refine ⟨⟨⟨⟨?_, ?_, ?_, ?_, ?_⟩, ⟨?_, ?_, ?_, ?_, ?_⟩, fun k => ?_, fun k => ?_, fun k => ?_, fun k => ?_⟩, ⟨⟨?_, ?_, ?_, ?_, ?_, ?_, ?_, fun k _ => ?_, fun k _ => ?_, fun k _ => ?_⟩, ?_, ?_, ?_⟩⟩, ⟨fun _ => 0, 0, ⟨t1, by omega, by omega, fun k hk => by omega⟩, ⟨t2, by omega, by omega, fun k hk => by omega⟩, by omega⟩, ⟨⟨fun k hk => ?_, fun k hk => ?_⟩, ?_, ⟨ly 83 (Or.inl rfl) z87 c12, ly 93 (Or.inr rfl) z97 d12, fun k => ?_, fun k => ?_, ?_, fun k => ?_⟩, ⟨fun k => ?_, fun k => ?_⟩, ⟨Or.inl i9, ?_, fun w => ?_⟩, ⟨83, 93, Or.inl ⟨rfl, rfl⟩, i7, i8, Or.inl ⟨e54, c0, c5, c10, c11, c12⟩⟩, ⟨⟨?_, ?_⟩, fun j a b => ?_, fun j a b => ?_, fun j => ?_⟩⟩, ⟨?_, fun j => ?_, fun j a b => ?_, fun j => ?_, Or.inl w6⟩, z216 0, fun j => Or.inl (z216 j)⟩
  · rw [x95, g2]
  · rw [x96, g3]
  · rw [x97, g4]
  · rw [x98, g5]
  · rw [x99, g6]
  · rw [x103, g8]
  · rw [x104, g9]
  · rw [x106, g11]
  · rw [x100, g12]
  · rw [x101, g13]
  · rw [z206, z79]
  · rw [z207, z80]
  · rw [z208, z81]
  · rw [z209, z82]; rfl
  · rw [g2]; omega
  · rw [g3]; omega
  · rw [g4]; omega
  · rw [g5]; omega
  · rw [g6]; omega
  · rw [g9, g8]; omega
  · rw [g11]; omega
  · rw [z79]; omega
  · rw [z80]; omega
  · rw [z81]; omega
  · rw [g12, g13]; omega
  · rw [g11, g13]; omega
  · rw [g13]; omega
  · rw [h 56 k (by omega) (by omega)]; exact kyC_ok ky_56 k hk
  · rw [h 164 k (by omega) (by omega)]; exact kyC_ok ky_164 k hk
  · rw [u7, u8]; omega
  · exact Or.inl (z198 k)
  · rw [z180]; omega
  · rw [e85]; omega
  · rw [z169]; omega
  · rw [z88]; omega
  · rw [z98]; omega
  · rw [e11, i9]
  · rw [i9] at w
    omega
  · rw [e86, w0]
  · rw [e91, w1]
  · obtain ⟨-, -, q3, q4⟩ := net_g a (by omega)
    rw [n201, n202, n74, n75, q3, q4]
    exact ⟨rfl, rfl⟩
  · rw [h 204 j (by omega) (by omega), h 74 j (by omega) (by omega)]
    exact net_w a b
  · obtain ⟨b1, b2, b3, b4⟩ := net_b j
    rw [n201, n202]
    omega
  · rw [w0]; omega
  · obtain ⟨b1, b2, b3, b4⟩ := net_b j
    rw [n74, n75]
    omega
  · obtain ⟨q1, q2, -, -⟩ := net_g a (by omega)
    rw [n74, n75]
    omega
  · exact Or.inl (z77 j)
end Ini
