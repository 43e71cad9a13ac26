set_option maxHeartbeats 1000000 in
theorem rzQ240T {PX : State → Prop} {Dg : va_G} {A : Nat → Prop} {ad : Nat → Nat} {l : Launch} (hPX : rx_PXOK rxNW A PX) (hsl : ∀ s : State, PX s → ∀ o idx n : Nat, rxSl o idx = some n → ∃ tx : String, vk_R (rxNm o) idx tx (ad n) s) : bx_ConP rxG rxNW rxAO PX Dg rxL rxX vwCl A ad l rxM240 rxC240 (fun S0 _ => rzCk S0 ∧ S0 494 7 = 0 ∧ S0 494 8 = 0) rxPSPLAYR := by
  have qNXX := rxQNXX (PX := PX) (Dg := Dg) (A := A) (ad := ad) (xa := fun n => n) (l := l) (X := (fun _ => True)) hPX hsl (fun _ _ h _ => h) (fun _ _ _ h => absurd h List.not_mem_nil)
  have qBGW := rxQBGW (PX := PX) (Dg := Dg) (A := A) (ad := ad) (xa := fun n => n) (l := l) (X := (fun _ => True)) hPX hsl (fun _ _ h _ => h) (fun _ _ _ h => absurd h List.not_mem_nil) qNXX
  have qBXW := rxQBXW (PX := PX) (Dg := Dg) (A := A) (ad := ad) (xa := fun n => n) (l := l) (X := (fun _ => True)) hPX hsl (fun _ _ h _ => h) (fun _ _ _ h => absurd h List.not_mem_nil) qBGW
  have qMUW := rxQMUW (PX := PX) (Dg := Dg) (A := A) (ad := ad) (xa := fun n => n) (l := l) (X := (fun _ => True)) hPX hsl (fun _ _ h _ => h) (fun _ _ _ h => absurd h List.not_mem_nil) qNXX
  have qNUK := rxQNUK (PX := PX) (Dg := Dg) (A := A) (ad := ad) (xa := fun n => n) (l := l) (X := (fun _ => True)) hPX hsl (fun _ _ h _ => h) (fun _ _ _ h => absurd h List.not_mem_nil) qMUW
  have qRPLK := rxQRPLK (PX := PX) (Dg := Dg) (A := A) (ad := ad) (xa := fun n => n) (l := l) (X := (fun _ => True)) hPX hsl (fun _ _ h _ => h) (fun _ _ _ h => absurd h List.not_mem_nil) qNXX qNUK
  have qIWW := rxQIWW (PX := PX) (Dg := Dg) (A := A) (ad := ad) (xa := fun n => n) (l := l) (X := (fun _ => True)) hPX hsl (fun _ _ h _ => h) (fun _ _ _ h => absurd h List.not_mem_nil)
  have qPU := rxQPU (PX := PX) (Dg := Dg) (A := A) (ad := ad) (xa := fun n => n) (l := l) (X := (fun _ => True)) hPX hsl (fun _ _ h _ => h) (fun _ _ _ h => absurd h List.not_mem_nil)
  have qOBK := rxQOBK (PX := PX) (Dg := Dg) (A := A) (ad := ad) (xa := fun n => n) (l := l) (X := (fun _ => True)) hPX hsl (fun _ _ h _ => h) (fun _ _ _ h => absurd h List.not_mem_nil) qMUW qPU
  have qPPW := rxQPPW (PX := PX) (Dg := Dg) (A := A) (ad := ad) (xa := fun n => n) (l := l) (X := (fun _ => True)) hPX hsl (fun _ _ h _ => h) (fun _ _ _ h => absurd h List.not_mem_nil)
  have qPAW := rxQPAW (PX := PX) (Dg := Dg) (A := A) (ad := ad) (xa := fun n => n) (l := l) (X := (fun _ => True)) hPX hsl (fun _ _ h _ => h) (fun _ _ _ h => absurd h List.not_mem_nil)
  have qEM := rxQEM (PX := PX) (Dg := Dg) (A := A) (ad := ad) (xa := fun n => n) (l := l) (X := (fun _ => True)) hPX hsl (fun _ _ h _ => h) (fun _ _ _ h => absurd h List.not_mem_nil)
  have qLFK := rxQLFK (PX := PX) (Dg := Dg) (A := A) (ad := ad) (xa := fun n => n) (l := l) (X := (fun _ => True)) hPX hsl (fun _ _ h _ => h) (fun _ _ _ h => absurd h List.not_mem_nil) qMUW qEM
  have qRPK := rxQRPK (PX := PX) (Dg := Dg) (A := A) (ad := ad) (xa := fun n => n) (l := l) (X := (fun _ => True)) hPX hsl (fun _ _ h _ => h) (fun _ _ _ h => absurd h List.not_mem_nil) qOBK qPPW qPAW qLFK
  have qRNK := rxQRNK (PX := PX) (Dg := Dg) (A := A) (ad := ad) (xa := fun n => n) (l := l) (X := (fun _ => True)) hPX hsl (fun _ _ h _ => h) (fun _ _ _ h => absurd h List.not_mem_nil) qPU qNXX qOBK qRPK
  have qBIK := rxQBIK (PX := PX) (Dg := Dg) (A := A) (ad := ad) (xa := fun n => n) (l := l) (X := (fun _ => True)) hPX hsl (fun _ _ h _ => h) (fun _ _ _ h => absurd h List.not_mem_nil)
  have qSTK := rxQSTK (PX := PX) (Dg := Dg) (A := A) (ad := ad) (xa := fun n => n) (l := l) (X := (fun _ => True)) hPX hsl (fun _ _ h _ => h) (fun _ _ _ h => absurd h List.not_mem_nil) qEM
  have qIN := rxQIN (PX := PX) (Dg := Dg) (A := A) (ad := ad) (xa := fun n => n) (l := l) (X := (fun _ => True)) hPX hsl (fun _ _ h _ => h) (fun _ _ _ h => absurd h List.not_mem_nil)
  have qISW := rxQISW (PX := PX) (Dg := Dg) (A := A) (ad := ad) (xa := fun n => n) (l := l) (X := (fun _ => True)) hPX hsl (fun _ _ h _ => h) (fun _ _ _ h => absurd h List.not_mem_nil)
  have qICW := rxQICW (PX := PX) (Dg := Dg) (A := A) (ad := ad) (xa := fun n => n) (l := l) (X := (fun _ => True)) hPX hsl (fun _ _ h _ => h) (fun _ _ _ h => absurd h List.not_mem_nil)
  have qBSK := rxQBSK (PX := PX) (Dg := Dg) (A := A) (ad := ad) (xa := fun n => n) (l := l) (X := (fun _ => True)) hPX hsl (fun _ _ h _ => h) (fun _ _ _ h => absurd h List.not_mem_nil) qBIK qSTK qPU qNXX qIN qISW qMUW qICW
  have qBTK := rxQBTK (PX := PX) (Dg := Dg) (A := A) (ad := ad) (xa := fun n => n) (l := l) (X := (fun _ => True)) hPX hsl (fun _ _ h _ => h) (fun _ _ _ h => absurd h List.not_mem_nil) qSTK qPU qEM qNXX qIN qISW qMUW
  have qREXK := rxQREXK (PX := PX) (Dg := Dg) (A := A) (ad := ad) (xa := fun n => n) (l := l) (X := (fun _ => True)) hPX hsl (fun _ _ h _ => h) (fun _ _ _ h => absurd h List.not_mem_nil) qRNK qRPK qBSK qBTK qSTK
  have qRYK := rxQRYK (PX := PX) (Dg := Dg) (A := A) (ad := ad) (xa := fun n => n) (l := l) (X := (fun _ => True)) hPX hsl (fun _ _ h _ => h) (fun _ _ _ h => absurd h List.not_mem_nil) qMUW qRPLK qIWW qREXK qNXX
  have qETW := rxQETW (PX := PX) (Dg := Dg) (A := A) (ad := ad) (xa := fun n => n) (l := l) (X := (fun _ => True)) hPX hsl (fun _ _ h _ => h) (fun _ _ _ h => absurd h List.not_mem_nil) qMUW
  have qWOK := rxQWOK (PX := PX) (Dg := Dg) (A := A) (ad := ad) (xa := fun n => n) (l := l) (X := (fun _ => True)) hPX hsl (fun _ _ h _ => h) (fun _ _ _ h => absurd h List.not_mem_nil)
  have qNOK := rxQNOK (PX := PX) (Dg := Dg) (A := A) (ad := ad) (xa := fun n => n) (l := l) (X := (fun _ => True)) hPX hsl (fun _ _ h _ => h) (fun _ _ _ h => absurd h List.not_mem_nil)
  have qRKN := rxQRKN (PX := PX) (Dg := Dg) (A := A) (ad := ad) (xa := fun n => n) (l := l) (X := (fun _ => True)) hPX hsl (fun _ _ h _ => h) (fun _ _ _ h => absurd h List.not_mem_nil)
  have qRAX := rxQRAX (PX := PX) (Dg := Dg) (A := A) (ad := ad) (xa := fun n => n) (l := l) (X := (fun _ => True)) hPX hsl (fun _ _ h _ => h) (fun _ _ _ h => absurd h List.not_mem_nil) qRKN
  have qIPX := rxQIPX (PX := PX) (Dg := Dg) (A := A) (ad := ad) (xa := fun n => n) (l := l) (X := (fun _ => True)) hPX hsl (fun _ _ h _ => h) (fun _ _ _ h => absurd h List.not_mem_nil) qWOK qNOK qRAX
  have qPLAYR := rxQPLAYR (PX := PX) (Dg := Dg) (A := A) (ad := ad) (xa := fun n => n) (l := l) (X := (fun _ => True)) hPX hsl (fun _ _ h _ => h) (fun _ _ _ h => absurd h List.not_mem_nil) qBXW qRYK qNXX qETW qIPX
  exact rx_conXP qPLAYR (fun S0 ws hX hp => ⟨hX, hp⟩) (fun S0 ws S w _ _ h => h.1)
