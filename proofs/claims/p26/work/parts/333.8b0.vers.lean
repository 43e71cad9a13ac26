/-! SCRIPTS of new versions, of both -/
theorem rjSc_mv {R R' : Int → Int} {b b_p : Int} (h : ∀ t : Int, 0 ≤ t → t < 36 → R (b + t) = R' (b_p + t)) : rjSc R b = rjSc R' b_p := funext fun t => by
  unfold rjSc
  by_cases c : 0 ≤ t ∧ t < 36
  · rw [if_pos c, if_pos c]
    exact h t c.1 c.2
  · rw [if_neg c, if_neg c]
theorem rjdRw_nw {S0 S : Nat → Int → Int} {pa n : Int} {f : Int → Int} (h : rjdRw S0 pa f) (g : ∀ t : Int, 0 ≤ t → t < 36 → S (42 + 3 * n).toNat t = S0 (24 + 3 * pa).toNat t ∧ S (43 + 3 * n).toNat t = S0 (25 + 3 * pa).toNat t) : rjdRw S (6 + n) f := fun t a b => by
  obtain ⟨h0, h1, h2⟩ := h t a b
  obtain ⟨g1, g2⟩ := g t a b
  refine ⟨h0, ?_, ?_⟩
  · rw [show 24 + 3 * (6 + n) = 42 + 3 * n by omega]
    exact g1.trans h1
  · rw [show 25 + 3 * (6 + n) = 43 + 3 * n by omega]
    exact g2.trans h2
section RJKG
variable {x : Bool} {S S_p : Nat → Int → Int} {ms : List (Nat × Nat)}
/-- a version less -/
theorem rjdK_un (hs : bx_same rxL (bx_mdl ms) S S_p) (hk : rjdKr.all (fun q => !(bx_mdl ms q.1 q.2)) = true) (h : rjdK x S) (e0 : S_p 482 0 = S 482 0) (e2 : S_p 482 2 ≤ S 482 2) (ho : ∀ j : Int, 22 ≤ j → j < 238 → S_p 482 j = S 482 j) (hv : ∀ j : Int, 298 ≤ j → j < 730 → S_p 482 j = S 482 j) : rjdK x S_p := by
  have l : ∀ l' : List (Nat × Nat), l'.all (fun q => rjdKr.contains q) = true → l'.all (fun q => !(bx_mdl ms q.1 q.2)) = true := fun l' hl => rjdKl hk hl
  have es : rjdSm S S_p := rjdSm_sm hs (l _ (by decide))
  refine rjdK_u (rkPl_sm hs (l _ (by decide)) h.1.1) (rkDu_sm hs (l _ (by decide)) h.1.2) h ?_ (fun p t a _ c d => es p t a c d) (fun j a b => rx_same64 (rjdKf hk (a := 1064) (b := 0) (by decide)) (rjdKf hk (a := 1064) (b := 1) (by decide)) hs a b) (rjdK_kp hs (rjdKf hk (a := 1031) (b := 0) (by decide)) 0 (by decide)) (rjdK_kp hs (rjdKf hk (a := 1031) (b := 0) (by decide)) 1 (by decide))
  have hm := rjdKb_m (Or.inl rfl) h.2.1 es
  refine ⟨fun k c c6 => ?_, fun hx k c c12 => ?_⟩
  · rw [e0] at c
    rw [rjSc_cg (R := S 482) fun t t0 t1 => ho _ (by omega) (by omega)]
    exact hm.1 k c c6
  · rw [rjSc_cg (R := S 482) fun t t0 t1 => hv _ (by omega) (by omega)]
    exact hm.2 hx k (by omega) c12
end RJKG
section RJPS
variable {P Q C D : Int → Int} {k n : Nat} {s i : Int}
end RJPS
section RJVB
variable {T U : Int → Bool} {W X V Y : Int → Int} {n : Nat} {k w b m : Int}
end RJVB
section RJOS
variable {V Y : Int → Int → Int} {n : Nat} {r s w : Int}
end RJOS