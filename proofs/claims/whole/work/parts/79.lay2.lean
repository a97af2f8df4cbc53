/-! lay: told and spare change places -/
def pi9 (i : Nat) : Nat := if i = 9 then 10 else if i = 10 then 9 else if i = 21 then 24 else if i = 24 then 21 else if i = 22 then 25 else if i = 25 then 22 else if i = 23 then 26 else if i = 26 then 23 else i
theorem pi9_lt : ∀ i, i < 27 → pi9 i < 27 := by decide +kernel
theorem pi9_inj : ∀ i, i < 27 → ∀ j, j < 27 → pi9 i = pi9 j → i = j := by decide +kernel
def swG (G : GG) : GG := (G.1, G.2.1, G.2.2.1, G.2.2.2.1, fun i => ga G (pi9 i), gN G)
def swW (σ : WW) : WW := fun i => σ (pi9 i)
theorem sw_P {G : GG} {σ : WW} {H : Heap} (hN : gN G = 27) (h : va_P (gD G) vwCl (wd G σ) H) : va_P (gD (swG G)) vwCl (wd (swG G) (swW σ)) H := by
  intro k q hk
  obtain ⟨h1, rfl⟩ := wd_lt hk
  have h1 : k < gN G := h1
  exact h (pi9 k) (ga G (pi9 k), σ (pi9 k)) (wd_at (by rw [hN] at h1 ⊢; exact pi9_lt k h1))
theorem sw_I {G : GG} (hN : gN G = 27) (h : Inj G) : Inj (swG G) := by
  intro i j hi hj e
  have hi : i < gN G := hi
  have hj : j < gN G := hj
  rw [hN] at hi hj
  exact pi9_inj i hi j hj (h (pi9 i) (pi9 j) (by rw [hN]; exact pi9_lt i hi) (by rw [hN]; exact pi9_lt j hj) e)
theorem sw_C {G : GG} {σ : WW} {i j : Nat} {e : va_E} (hN : gN G = 27) (h : Cl G σ j e) (hi : i < 27) (hp : pi9 i = j) : Cl (swG G) (swW σ) i e := ⟨by show i < gN G; omega, by show σ (pi9 i) = e; rw [hp]; exact h.2⟩
theorem s_lay {G1 G2 : GG} {σ1 σ2 : WW} (hN : gN G1 = 27) (hP : PQ G1 σ1 G2 σ2) : ∃ u σ1' σ2', Mt G1 mX9_lay [.ref (ga G1 0)] σ1 (some (.int u)) σ1' ∧ Mt G2 mX10_lay [.ref (ga G2 0)] σ2 (some (.int u)) σ2' ∧ (PQ G1 σ1' G2 σ2' ∨ PQ (swG G1) (swW σ1') G2 σ2') := by
  obtain ⟨n, x, T, h, r, w, ⟨c0, cT, cP, cX, cG, cR, cL, cW, cO, cS, cE⟩, ⟨⟨at0, qG⟩, qT, qX, qR, qL, qW, qC, qN⟩, hI⟩ := hP
  obtain ⟨i1, i2, i3, i4, i5, i6⟩ := id hI
  by_cases hno : (∃ a, (rd x n 300 0 P0).1 = some a) ∨ ((rd x n 300 0 P0).1 = none ∧ tm (rd x n 300 0 P0).2 = 0)
  · obtain ⟨τ1, k1, a1, f1⟩ := c_layNo c0 cP cX i1 i2 hno
    obtain ⟨τ2, k2, ⟨at1, b0⟩, b1, f2⟩ := q_layNo i1 qG qX qT hno
    exact ⟨_, τ1, τ2, k1, k2, Or.inl ⟨n, x, T, h, r, w, ⟨c0.fr f1 (by decide), cT.fr f1 (by decide) (by decide) (by decide) (by decide), a1, cX.fr f1 (by decide) (by decide), cG.fr f1 (by decide) (by decide) (by decide) (by decide), cR.fr f1 (by decide) (by decide), cL.fr f1 (by decide), cW.fr f1 (by decide) (by decide) (by decide), cO.fr f1 (by decide) (by decide), cS.fr f1 (by decide) (by decide), cE.fr f1 (by decide) (by decide)⟩, ⟨⟨at1, b0⟩, b1, qX.fr f2 (by decide), qR.fr f2 (by decide), qL.fr f2 (by decide) (by decide) (by decide), qW.fr f2 (by decide), qC.fr f2 (by decide) (by decide), qN.fr f2 (by decide) (by decide)⟩, hI⟩⟩
  · have hrd : ∃ P, rd x n 300 0 P0 = (none, P) ∧ 1 ≤ tm P := by
      rcases e : rd x n 300 0 P0 with ⟨_ | a, P⟩
      · refine ⟨P, rfl, ?_⟩
        rw [e] at hno
        rcases Nat.eq_zero_or_pos (tm P) with z | z
        · exact absurd (Or.inr ⟨rfl, z⟩) hno
        · exact z
      · rw [e] at hno
        exact absurd (Or.inl ⟨a, rfl⟩) hno
    obtain ⟨P, hrd, hm1⟩ := hrd
    obtain ⟨τ2, k2, ⟨at1, b0⟩, b1, f2⟩ := q_lay i1 qG qX qT hrd hm1
    have hm9 : tm P ≤ 9 := b1.w.1.2.2.2.2.1
    obtain ⟨f18, k18, o1, o2, o3⟩ := id cO
    obtain ⟨τ1, k1, a0, a1, a2, a3, a4, a5, f1⟩ := c_lay c0 cP cX cG cR o1 (by obtain ⟨_, _, _, z, _⟩ := cT; exact ⟨_, z⟩) i1 i2 hrd hm1 hm9
    refine ⟨_, τ1, τ2, k1, k2, Or.inr ⟨n, x, P, ((0, 0, 0), 0, h.2.2.1, 0, h.2.2.2.2), 0, w, ⟨?_, ?_, ?_, ?_, ?_, ?_, ?_, ?_, ?_, ?_, ?_⟩, ⟨⟨at1, b0⟩, b1, qX.fr f2 (by decide), ?_, qL.fr f2 (by decide) (by decide) (by decide), qW.fr f2 (by decide), qC.fr f2 (by decide) (by decide), qN.fr f2 (by decide) (by decide)⟩, ?_⟩⟩
    · exact sw_C hN a0 (by decide) rfl
    · obtain ⟨fv, fl, fh, g1, g2, g3, g4, g5⟩ := a1
      exact ⟨fv, fl, fh, sw_C hN g1 (by decide) rfl, sw_C hN g2 (by decide) rfl, sw_C hN g3 (by decide) rfl, sw_C hN g4 (by decide) rfl, g5⟩
    · obtain ⟨fv, fl, fh, g1, g2, g3, g4, -⟩ := cT
      exact ⟨fv, fl, fh, _, _, _, _, _, _, sw_C hN (g1.fr f1 (by decide)) (by decide) rfl, sw_C hN (g2.fr f1 (by decide)) (by decide) rfl, sw_C hN (g3.fr f1 (by decide)) (by decide) rfl, sw_C hN (g4.fr f1 (by decide)) (by decide) rfl⟩
    · obtain ⟨g1, g, g2, g3⟩ := a2
      exact ⟨sw_C hN g1 (by decide) rfl, g, sw_C hN g2 (by decide) rfl, g3⟩
    · obtain ⟨g1, g2, ⟨fa, g3, g4⟩, fb, g5, g6⟩ := a3
      exact ⟨sw_C hN g1 (by decide) rfl, sw_C hN g2 (by decide) rfl, ⟨fa, sw_C hN g3 (by decide) rfl, g4⟩, fb, sw_C hN g5 (by decide) rfl, g6⟩
    · obtain ⟨g1, g, g2, g3⟩ := a4
      exact ⟨sw_C hN g1 (by decide) rfl, g, sw_C hN g2 (by decide) rfl, g3⟩
    · obtain ⟨a, b, g1⟩ := cL
      exact ⟨a, b, sw_C hN (g1.fr f1 (by decide)) (by decide) rfl⟩
    · obtain ⟨a, b, f, g, hab, g1, g2, g3⟩ := cW
      rcases hab with ⟨rfl, rfl⟩ | ⟨rfl, rfl⟩
      · exact ⟨16, 17, f, g, Or.inl ⟨rfl, rfl⟩, sw_C hN (g1.fr f1 (by decide)) (by decide) rfl, sw_C hN (g2.fr f1 (by decide)) (by decide) rfl, sw_C hN (g3.fr f1 (by decide)) (by decide) rfl⟩
      · exact ⟨17, 16, f, g, Or.inr ⟨rfl, rfl⟩, sw_C hN (g1.fr f1 (by decide)) (by decide) rfl, sw_C hN (g2.fr f1 (by decide)) (by decide) rfl, sw_C hN (g3.fr f1 (by decide)) (by decide) rfl⟩
    · exact ⟨f18, false, sw_C hN a5 (by decide) rfl, sw_C hN (o2.fr f1 (by decide)) (by decide) rfl, fun z => absurd z (by decide)⟩
    · obtain ⟨g1, g, g2⟩ := cS
      exact ⟨sw_C hN (g1.fr f1 (by decide)) (by decide) rfl, g, sw_C hN (g2.fr f1 (by decide)) (by decide) rfl⟩
    · obtain ⟨g1, g, g2⟩ := cE
      exact ⟨sw_C hN (g1.fr f1 (by decide)) (by decide) rfl, g, sw_C hN (g2.fr f1 (by decide)) (by decide) rfl⟩
    · obtain ⟨g, g1, _⟩ := qR
      exact ⟨g, g1.fr f2 (by decide), fun k hk => absurd hk (Nat.not_lt_zero _)⟩
    · exact ⟨i1, i2, hm1, ⟨⟨by show 0 < 512; decide, Nat.zero_le _, by show 0 < 32; decide⟩, Nat.zero_le _, fun k hk => absurd hk (Nat.not_lt_zero _), Nat.zero_le _, fun k hk => absurd hk (Nat.not_lt_zero _)⟩, Nat.zero_le _, fun k hk => absurd hk (Nat.not_lt_zero _)⟩
