/-! WHAT IS NOT WALKED IS SOUND -/
def rxRd : String := "DeadUnderstudies$Reader"
/-- the texts, and where they stand -/
def rxPX (A : Nat → Prop) (xa : Nat → Nat) (U : State) : Prop := vk_R rxRd 121 "bars" (xa 1) U ∧ vk_R rxRd 123 "slips" (xa 3) U ∧ vk_R rxRd 125 "hours" (xa 2) U ∧
  (∃ (av : Nat) (f : Nat → Value), rx_SX A (xa 1) av 4 f U) ∧ (∃ (av : Nat) (f : Nat → Value), rx_SX A (xa 2) av 5 f U) ∧ ∃ (av : Nat) (f : Nat → Value), rx_SX A (xa 3) av 5 f U
theorem rxPX_to {A : Nat → Prop} {xa : Nat → Nat} {u U : State} (h : rxPX A xa u) (hr : ∀ (k : Nat) (tx : String) (a : Nat), vk_R rxRd k tx a u → vk_R rxRd k tx a U) (hvm : u.vm.Alike U.vm) (hq : ∀ a : Nat, a < u.heap.size → ¬ A a → U.heap[a]? = u.heap[a]?) : rxPX A xa U := by
  obtain ⟨h1, h2, h3, ⟨v1, f1, g1⟩, ⟨v2, f2, g2⟩, ⟨v3, f3, g3⟩⟩ := h
  exact ⟨hr _ _ _ h1, hr _ _ _ h2, hr _ _ _ h3, ⟨v1, f1, g1.to hvm hq⟩, ⟨v2, f2, g2.to hvm hq⟩, ⟨v3, f3, g3.to hvm hq⟩⟩
theorem rxPX_call {A : Nat → Prop} {xa : Nat → Nat} (U : State) (g : JFrame) (mk : MethodId) (a : Array Value) (h : rxPX A xa U) : rxPX A xa (U.calling g mk a) :=
  rxPX_to h (fun _ _ _ h => vk_R.same (u := U) (U := U.calling g mk a) rfl h) (Vm.Alike.refl U.vm) (fun _ _ _ => rfl)
theorem rxPX_warm {A : Nat → Prop} {xa : Nat → Nat} (u U : State) (h : rxPX A xa u) (hW : u.WarmedH U.vm) (hq : ∀ a : Nat, a < u.heap.size → ¬ A a → U.heap[a]? = u.heap[a]?) : rxPX A xa U :=
  rxPX_to h (fun _ _ _ h => vk_R.warm hW h) hW.alike hq
theorem rxPX_str {A : Nat → Prop} {xa : Nat → Nat} {o idx i : Nat} {s : State} (h : rxPX A xa s) (hi : rx_lku (rxStL o) idx = some i) : ∃ tx : String, vk_R (rxNm o) idx tx (xa i) s := by
  have h2 := rx_lku_mem hi
  unfold rxStL at h2
  split at h2
  · rcases List.mem_cons.mp h2 with e | h2
    · cases e
      exact ⟨_, h.1⟩
    · rcases List.mem_cons.mp h2 with e | h2
      · cases e
        exact ⟨_, h.2.1⟩
      · rcases List.mem_cons.mp h2 with e | h2
        · cases e
          exact ⟨_, h.2.2.1⟩
        · exact absurd h2 List.not_mem_nil
  · exact absurd h2 List.not_mem_nil
theorem rxPX_len {A : Nat → Prop} {xa : Nat → Nat} {s : State} (h : rxPX A xa s) (i n : Nat) (h1 : 1 ≤ i) (hn : rxSlen[i]? = some n) : n < 2 ^ 31 ∧ ∃ (av : Nat) (f : Nat → Value), rx_SX A (xa i) av n f s := by
  obtain ⟨-, -, -, g1, g2, g3⟩ := h
  match i, h1, hn with
  | 1, _, hn =>
    cases hn
    exact ⟨by decide, g1⟩
  | 2, _, hn =>
    cases hn
    exact ⟨by decide, g2⟩
  | 3, _, hn =>
    cases hn
    exact ⟨by decide, g3⟩
  | _ + 4, _, hn => cases hn
theorem rxWlen_in : ∀ w ∈ rxWlen, w ∈ rxG := rx_all_cons rxW_s4 (rx_all_cons rxW_s9 (rx_all_cons rxW_s8 (rx_all_cons rxW_s10 (rx_all_cons rxW_s11 (rx_all_cons rxW_s5 (rx_all_cons rxW_s6 (rx_all_cons rxW_s7 (rx_all_cons rxW_s3 rx_all_nil))))))))
theorem rx_xm_ok {M : rx_Mt} {z : rx_Z} {R : Room} (h : rx_xm M z = true) (hmc : M.2.2.2.2.2.2.1 ≤ R.cells) (hms : M.2.2.2.2.2.2.2 ≤ R.slots) : z.2.2.2.1 ≤ R.cells ∧ z.2.2.2.2.1 ≤ R.slots := by
  unfold rx_xm at h
  rw [Bool.and_eq_true, decide_eq_true_eq, decide_eq_true_eq] at h
  exact ⟨Nat.le_trans h.1 hmc, Nat.le_trans h.2 hms⟩
set_option maxHeartbeats 1000000 in
theorem rxXh_ok (A : Nat → Prop) (xa : Nat → Nat) (l : Launch) (D : va_G) : rx_xhOK rxXh rxG rxNW rxAO vwCl rxNm A xa (rxPX A xa) l D := by
  intro d M i len z zs h hn p e R s m args below meth c Q H0 H locs ls r ad hF hA hH0 hmc hms hd hdl hdg hR K
  have hpx : rxPX A xa s := hF.2.2.2.2.2.2.2.2.2.1
  cases i with
  | ldc idx =>
    obtain ⟨hl, h2⟩ := rx_ifn (show rx_if (len == 2) (rx_x_str (fun o i => rx_lku (rxStL o) i) M.1 idx z) = some zs from h)
    subst hl
    have h' := h2
    unfold rx_x_str at h'
    split at h'
    · rename_i k hk
      obtain ⟨tx, hZ⟩ := rxPX_str hpx hk
      exact rx_x_str_ok hF hn hk hZ hdg hR h2 K
    · cases h'
  | sipush n =>
    obtain ⟨hl, h2⟩ := rx_if_ok (show rx_if (len == 3 && rxIm M n (rx_zpc z)) (rx_x_image z) = some zs from h)
    unfold rxIm at hl
    simp only [Bool.and_eq_true, beq_iff_eq, decide_eq_true_eq] at hl
    obtain ⟨-, -, g2, g3, g4⟩ := hl
    exact rx_x_image_ok hF hn rxFr_ok (by rw [g3]; rfl) (by rw [g3]; rfl) g4 g2 hR h2 K
  | invokespecial idx =>
    obtain ⟨hl, h2⟩ := rx_if_ok (show rx_if (len == 3 && rx_lku (rxXtL M.1) idx == some 10) (rx_x_init d z) = some zs from h)
    simp only [Bool.and_eq_true, beq_iff_eq] at hl
    obtain ⟨g1, g2⟩ := hl
    subst g1
    exact rx_x_init_ok hF hn hd hdl ⟨(rxXt_ok _ _ _ g2).1 rfl, rxW_i1, rxW_i2⟩ hdg hR h2 K
  | invokestatic idx =>
    obtain ⟨hl, h2⟩ := rx_ifn (show rx_if (len == 3) (match rx_lku (rxXtL M.1) idx with
      | some 11 => rx_x_copy d z
      | some 12 => rx_if (rx_xm M z) (rx_x_fill d z)
      | some 13 => rx_if (rx_xm M z) (rx_x_min d z)
      | _ => none) = some zs from h)
    subst hl
    split at h2
    · rename_i hk
      exact rx_x_copy_ok hF hn hd hdl ⟨(rxXt_ok _ _ _ hk).2.1 rfl, rxW_c1, rxW_c2, rxW_c3⟩ hdg hR h2 K
    · rename_i hk
      obtain ⟨hm, h3⟩ := rx_if_ok h2
      obtain ⟨c1, c2⟩ := rx_xm_ok hm hmc hms
      exact rx_x_fill_ok rxGgood hF hn hd hdl c1 c2 ⟨(rxXt_ok _ _ _ hk).2.2.1 rfl, rxW_f1, rxW_f2, rxW_f3⟩ hdg hR h3 K
    · rename_i hk
      obtain ⟨hm, h3⟩ := rx_if_ok h2
      obtain ⟨c1, c2⟩ := rx_xm_ok hm hmc hms
      exact rx_x_min_ok hF hn hd hdl c1 c2 ⟨(rxXt_ok _ _ _ hk).2.2.2.1 rfl, rxW_m1, rxW_m2, rxW_m3⟩ hdg hR h3 K
    · cases h2
  | invokevirtual idx =>
    obtain ⟨hl, h2⟩ := rx_if_ok (show rx_if (len == 3 && rx_lku (rxXtL M.1) idx == some 14) (rx_if (rx_xm M z) (rx_x_slen rxSlen d z)) = some zs from h)
    simp only [Bool.and_eq_true, beq_iff_eq] at hl
    obtain ⟨g1, g2⟩ := hl
    subst g1
    obtain ⟨hm, h3⟩ := rx_if_ok h2
    obtain ⟨c1, c2⟩ := rx_xm_ok hm hmc hms
    exact rx_x_slen_ok rxGgood hF hn hd hdl c1 c2 hH0 (rxPX_len hpx) ⟨(rxXt_ok _ _ _ g2).2.2.2.2 rfl, rxW_s1, rxW_s2, rxWlen_in⟩ hdg hR h3 K
  | _ => exact absurd (show (none : Option (List rx_Z)) = some zs from h) (fun q => by cases q)
