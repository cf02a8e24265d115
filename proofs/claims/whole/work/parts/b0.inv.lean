/-! the class's rules and eras, and where they stand: not below 63, not in the draft's row s -/
def zok3 (s a : Nat) : Prop := 63 ≤ a ∧ a ≠ s
def zSk (s : Nat) (h : zH) (p : Nat) (w : List Int) : Prop := ∃ (q : Nat) (r : List Value) (u : Nat → Int), (zok3 s p ∧ zok3 s q) ∧ z_at h (.ref p) = .inr (2, .ref q :: zi 0 :: r) ∧ z_at h (.ref q) = zA 2 w.length u ∧ zT w u ∧ w.length ≤ 1000 ∧ ∀ c ∈ w, 0 ≤ c ∧ c ≤ 127
def zRk (s : Nat) (h : zH) (a : Nat) (R : zRu) : Prop := ∃ (d c : Nat) (v : Value), (zok3 s a ∧ zok3 s d ∧ zok3 s c) ∧ z_at h (.ref a) = .inr (9, [zi (R.1 0), zi (R.1 1), zi (R.1 2), zi (R.1 3), .ref d, .ref c, zi (R.1 9), v]) ∧ z_at h (.ref d) = .inr (7, [zi (R.1 4), zi (R.1 5), zi (R.1 6)]) ∧ z_at h (.ref c) = .inr (8, [zi (R.1 7), zi (R.1 8)]) ∧ ((∃ p, v = .ref p ∧ zSk s h p R.2) ∨ (v = .retAddr 24 ∧ R.2 = []))
def zEk (s : Nat) (h : zH) (a : Nat) (E : zEr) : Prop := ∃ (c p : Nat) (sec : Int), (zok3 s a ∧ zok3 s c) ∧ z_at h (.ref a) = .inr (10, [zi (E.1 0), zi (E.1 1), zi (E.1 2), .ref p, zi (E.1 3), zl (E.1 4), .ref c]) ∧ z_at h (.ref c) = .inr (8, [zi sec, zi (E.1 5)]) ∧ zSk s h p E.2
/-- the cells that rules and eras use are the same -/
def zAg (s : Nat) (h h' : zH) : Prop := ∀ x : Nat, zok3 s x → x < h.1 → z_at h' (.ref x) = z_at h (.ref x)
section ZIn
variable {s s' L a p k : Nat} {h h' : zH} {w : List Int} {R : zRu} {E : zEr}
theorem zAg.at (hg : zAg s h h') (hF : zFr h) {x : Nat} {e : zE} (hx : zok3 s x) (he : z_at h (.ref x) = e) (hn : e ≠ z_jk) : z_at h' (.ref x) = e := by
  rw [hg x hx (zFr_lt hF he hn)]; exact he
theorem zSk.ag (hs : zSk s h p w) (hg : zAg s h h') (hF : zFr h) : zSk s h' p w := by
  obtain ⟨q, r, u, ⟨b1, b2⟩, h1, h2, h3⟩ := hs
  exact ⟨q, r, u, ⟨b1, b2⟩, hg.at hF b1 h1 (zo_jk (by decide)), hg.at hF b2 h2 zA_jk, h3⟩
theorem zRk.ag (hs : zRk s h a R) (hg : zAg s h h') (hF : zFr h) : zRk s h' a R := by
  obtain ⟨d, c, v, ⟨b1, b2, b3⟩, h1, h2, h3, h4⟩ := hs
  refine ⟨d, c, v, ⟨b1, b2, b3⟩, hg.at hF b1 h1 (zo_jk (by decide)), hg.at hF b2 h2 (zo_jk (by decide)), hg.at hF b3 h3 (zo_jk (by decide)), ?_⟩
  rcases h4 with ⟨p, h4, h5⟩ | h4
  · exact Or.inl ⟨p, h4, h5.ag hg hF⟩
  · exact Or.inr h4
theorem zEk.ag (hs : zEk s h a E) (hg : zAg s h h') (hF : zFr h) : zEk s h' a E := by
  obtain ⟨c, p, sec, ⟨b1, b2⟩, h1, h2, h3⟩ := hs
  exact ⟨c, p, sec, ⟨b1, b2⟩, hg.at hF b1 h1 (zo_jk (by decide)), hg.at hF b2 h2 (zo_jk (by decide)), h3.ag hg hF⟩
/-- the row moves to a new cell -/
theorem zSk.mv (hs : zSk s h p w) (hF : zFr h) (hn : h.1 ≤ s') : zSk s' h p w := by
  obtain ⟨q, r, u, ⟨b1, b2⟩, h1, h2, h3⟩ := hs
  have := zFr_lt hF h1 (zo_jk (by decide))
  have := zFr_lt hF h2 zA_jk
  exact ⟨q, r, u, ⟨⟨b1.1, by omega⟩, ⟨b2.1, by omega⟩⟩, h1, h2, h3⟩
theorem zRk.mv (hs : zRk s h a R) (hF : zFr h) (hn : h.1 ≤ s') : zRk s' h a R := by
  obtain ⟨d, c, v, ⟨b1, b2, b3⟩, h1, h2, h3, h4⟩ := hs
  have := zFr_lt hF h1 (zo_jk (by decide))
  have := zFr_lt hF h2 (zo_jk (by decide))
  have := zFr_lt hF h3 (zo_jk (by decide))
  refine ⟨d, c, v, ⟨⟨b1.1, by omega⟩, ⟨b2.1, by omega⟩, ⟨b3.1, by omega⟩⟩, h1, h2, h3, ?_⟩
  rcases h4 with ⟨p, h4, h5⟩ | h4
  · exact Or.inl ⟨p, h4, h5.mv hF hn⟩
  · exact Or.inr h4
theorem zEk.mv (hs : zEk s h a E) (hF : zFr h) (hn : h.1 ≤ s') : zEk s' h a E := by
  obtain ⟨c, p, sec, ⟨b1, b2⟩, h1, h2, h3⟩ := hs
  have := zFr_lt hF h1 (zo_jk (by decide))
  have := zFr_lt hF h2 (zo_jk (by decide))
  exact ⟨c, p, sec, ⟨⟨b1.1, by omega⟩, ⟨b2.1, by omega⟩⟩, h1, h2, h3.mv hF hn⟩
/-- a new one -/
theorem zSd.toK (hs : zSd L h p w) (h1 : 63 ≤ L) (h2 : s < L) : zSk s h p w := by
  obtain ⟨q, r, u, ⟨b1, b2⟩, c1, c2, c3⟩ := hs
  exact ⟨q, r, u, ⟨⟨by omega, by omega⟩, ⟨by omega, by omega⟩⟩, c1, c2, c3⟩
theorem zRb.toK (hs : zRb L h a R) (h1 : 63 ≤ L) (h2 : s < L) : zRk s h a R := by
  obtain ⟨d, c, v, ⟨b1, b2, b3⟩, c1, c2, c3, c4⟩ := hs
  refine ⟨d, c, v, ⟨⟨by omega, by omega⟩, ⟨by omega, by omega⟩, ⟨by omega, by omega⟩⟩, c1, c2, c3, ?_⟩
  rcases c4 with ⟨p, c4, c5⟩ | ⟨c4, c5, -⟩
  · exact Or.inl ⟨p, c4, c5.toK h1 h2⟩
  · exact Or.inr ⟨c4, c5⟩
theorem zEb.toK (hs : zEb L h a E) (h1 : 63 ≤ L) (h2 : s < L) : zEk s h a E := by
  obtain ⟨c, p, sec, ⟨b1, b2⟩, c1, c2, c3⟩ := hs
  exact ⟨c, p, sec, ⟨⟨by omega, by omega⟩, ⟨by omega, by omega⟩⟩, c1, c2, c3.toK h1 h2⟩
theorem zSk.st (hs : zSk s h p w) : zSt h (.ref p) w := by
  obtain ⟨q, r, u, -, h1, h2, h3⟩ := hs
  exact ⟨.ref q, r, u, rfl, h1, rfl, h2, h3⟩
theorem zRk.q (hs : zRk s h a R) (hL : zLit h) : zRq h a R := by
  obtain ⟨d, c, v, -, h1, h2, h3, h4⟩ := hs
  refine ⟨d, c, v, h1, h2, h3, ?_⟩
  rcases h4 with ⟨p, rfl, h5⟩ | ⟨rfl, h5⟩
  · exact h5.st
  · rw [h5]; exact hL.e2
theorem zEk.q (hs : zEk s h a E) : zEq h a E := by
  obtain ⟨c, p, sec, -, h1, h2, h3⟩ := hs
  exact ⟨c, p, sec, h1, h2, h3.st⟩
end ZIn
/-- a set -/
def zRB (s : Nat) (h : zH) (k : Nat) (ks : List Int) (rs : List zRu) : Prop := ∃ (P : Nat → Option Nat) (K : Nat → Int), z_at h (.ref (12 + 3 * k)) = .inr (5, [.ref (13 + 3 * k), zi rs.length, .ref (14 + 3 * k), zi ks.length]) ∧ z_at h (.ref (13 + 3 * k)) = zQA 8 6 P ∧ z_at h (.ref (14 + 3 * k)) = zLA 408 K ∧ rs.length ≤ 6 ∧ ks.length ≤ 408 ∧ (∀ j, j < ks.length → K j = ks.getD j 0) ∧ (∀ r, r < rs.length → ∃ a, P r = some a ∧ zRk s h a (rs.getD r zR0))
/-- all sets and eras -/
def zCB (s : Nat) (h : zH) (Es : List zEr) (Ks : Nat → List Int) (Rs : Nat → List zRu) : Prop := ∃ PE : Nat → Option Nat, z_at h (.ref 3) = zQA 6 3 zS3 ∧ z_at h (.ref 4) = zQA 7 4 PE ∧ Es.length ≤ 4 ∧ (∀ i, i < Es.length → ∃ a, PE i = some a ∧ zEk s h a (Es.getD i zE0)) ∧ (∀ k, k < 3 → zRB s h k (Ks k) (Rs k))
section ZIo
variable {s s' L a p k : Nat} {h h' : zH} {w : List Int} {ks : List Int} {rs : List zRu} {Es : List zEr} {Ks : Nat → List Int} {Rs : Nat → List zRu} {G : Nat → Nat → Int}
theorem zRB.ag (hs : zRB s h k ks rs) (hg : zAg s h h') (hF : zFr h) (h1 : z_at h' (.ref (12 + 3 * k)) = z_at h (.ref (12 + 3 * k))) (h2 : z_at h' (.ref (13 + 3 * k)) = z_at h (.ref (13 + 3 * k))) (h3 : z_at h' (.ref (14 + 3 * k)) = z_at h (.ref (14 + 3 * k))) : zRB s h' k ks rs := by
  obtain ⟨P, K, c1, c2, c3, c4, c5, c6, c7⟩ := hs
  exact ⟨P, K, h1.trans c1, h2.trans c2, h3.trans c3, c4, c5, c6, fun r hr => by
    obtain ⟨a, e1, e2⟩ := c7 r hr
    exact ⟨a, e1, e2.ag hg hF⟩⟩
theorem zRB.mv (hs : zRB s h k ks rs) (hF : zFr h) (hn : h.1 ≤ s') : zRB s' h k ks rs := by
  obtain ⟨P, K, c1, c2, c3, c4, c5, c6, c7⟩ := hs
  exact ⟨P, K, c1, c2, c3, c4, c5, c6, fun r hr => by
    obtain ⟨a, e1, e2⟩ := c7 r hr
    exact ⟨a, e1, e2.mv hF hn⟩⟩
theorem zCB.ag (hs : zCB s h Es Ks Rs) (hg : zAg s h h') (hF : zFr h) (hc : ∀ x : Nat, x = 3 ∨ x = 4 ∨ (12 ≤ x ∧ x ≤ 20) → z_at h' (.ref x) = z_at h (.ref x)) : zCB s h' Es Ks Rs := by
  obtain ⟨PE, c1, c2, c3, c4, c5⟩ := hs
  refine ⟨PE, (hc 3 (by omega)).trans c1, (hc 4 (by omega)).trans c2, c3, fun i hi => ?_, fun k hk => (c5 k hk).ag hg hF (hc _ (by omega)) (hc _ (by omega)) (hc _ (by omega))⟩
  obtain ⟨a, e1, e2⟩ := c4 i hi
  exact ⟨a, e1, e2.ag hg hF⟩
theorem zCB.mv (hs : zCB s h Es Ks Rs) (hF : zFr h) (hn : h.1 ≤ s') : zCB s' h Es Ks Rs := by
  obtain ⟨PE, c1, c2, c3, c4, c5⟩ := hs
  refine ⟨PE, c1, c2, c3, fun i hi => ?_, fun k hk => (c5 k hk).mv hF hn⟩
  obtain ⟨a, e1, e2⟩ := c4 i hi
  exact ⟨a, e1, e2.mv hF hn⟩
theorem zCB.onch (hs : zCB s h Es Ks Rs) (hF : zFr h) : zCB s (ch h G) Es Ks Rs :=
  hs.ag (fun x hx _ => cat_o (by unfold zok3 at hx; omega)) hF (fun x hx => cat_o (by omega))
theorem zRB.toS (hs : zRB s h k ks rs) (hL : zLit h) : zRS h (12 + 3 * k) ks rs := by
  obtain ⟨P, K, c1, c2, c3, c4, c5, c6, c7⟩ := hs
  exact ⟨_, _, P, K, c1, c2, c3, c4, c5, c6, fun r hr => by
    obtain ⟨a, e1, e2⟩ := c7 r hr
    exact ⟨a, e1, e2.q hL⟩⟩
theorem zCB.toS (hs : zCB s h Es Ks Rs) (hF : zFr h) (hL : zLit (ch h G)) (hG : G 0 3 = Es.length) : zCS (ch h G) Es Ks Rs := by
  obtain ⟨PE, c1, c2, c3, c4, c5⟩ := hs.onch (G := G) hF
  refine ⟨PE, G 0 7, ?_, c1, c2, c3, fun i hi => ?_, fun k hk => (c5 k hk).toS hL⟩
  · rw [cat_0, ← hG]; rfl
  · obtain ⟨a, e1, e2⟩ := c4 i hi
    exact ⟨a, e1, e2.q⟩
end ZIo
