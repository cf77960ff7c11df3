theorem px_I1.rg {pl ow : Nat → Int32} (h : px_I1 pl ow) (b : Nat) (hb : b < 240) : px_rg (pl b) := by
  rcases h.1 b hb with h1 | ⟨p, h1, h2, _⟩
  · exact Or.inl h1
  · exact Or.inr ⟨p, h1, h2⟩
theorem px_I1.rq {pl ow : Nat → Int32} (h : px_I1 pl ow) (p : Nat) (hp : p < 80) : px_rq (ow p) := h.2 p hp
theorem px_nf_nI {f k : Nat} (h : f ≤ k) (hk : k < 2 ^ 31) : px_nf (nI f) k = false := px_nf_f (nI_pos (by omega)) (nI_le h hk)
