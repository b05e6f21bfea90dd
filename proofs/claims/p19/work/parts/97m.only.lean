/-! which exceptions a call can throw -/
def oE (P : Nat → Prop) (A : Option ((Option Int32 ⊕ Nat) × xSt)) : Prop := ∀ E T, A = some (.inr E, T) → P E
theorem oE.no {P : Nat → Prop} : oE P none := fun _ _ h => by cases h
theorem oE.vl {P : Nat → Prop} {v : Option Int32} {T : xSt} : oE P (some (.inl v, T)) := fun _ _ h => by cases h
theorem oE.er {P : Nat → Prop} {E : Nat} {T : xSt} (h : P E) : oE P (some (.inr E, T)) := fun _ _ q => by cases q; exact h
theorem oE.it {P : Nat → Prop} {c : Prop} [Decidable c] {A B : Option ((Option Int32 ⊕ Nat) × xSt)} (h1 : oE P A) (h2 : oE P B) : oE P (if c then A else B) := by
  by_cases q : c
  · rw [if_pos q]; exact h1
  · rw [if_neg q]; exact h2
theorem oE.bd {P : Nat → Prop} {α : Type} {B : Option α} {k : α → Option ((Option Int32 ⊕ Nat) × xSt)} (h : ∀ r, oE P (k r)) : oE P (B.bind k) := by
  cases B with
  | none => exact oE.no
  | some a => rw [bsm]; exact h a
theorem oe_secret {S : xSt} {rl b : Int32} : oE (fun E => E = 0 ∨ E = 1 ∨ E = 2) (f_secret S rl b) := by
  unfold f_secret
  repeat' first | exact oE.no | exact oE.vl | exact oE.er (by decide) | refine oE.it ?_ ?_ | refine oE.bd (fun _ => ?_)
theorem oe_create {S : xSt} {ci rl x : Int32} : oE (fun E => E = 0 ∨ E = 1 ∨ E = 2) (f_create S ci rl x) := by
  unfold f_create
  repeat' first | exact oE.no | exact oE.vl | exact oE.er (by decide) | refine oE.it ?_ ?_ | refine oE.bd (fun _ => ?_)
theorem oe_extend {S : xSt} {ci rl x : Int32} : oE (fun E => E = 0 ∨ E = 1 ∨ E = 2) (f_extend S ci rl x) := by
  unfold f_extend
  repeat' first | exact oE.no | exact oE.vl | exact oE.er (by decide) | refine oE.it ?_ ?_ | refine oE.bd (fun _ => ?_)
theorem oe_begin {S : xSt} {ci st hp : Int32} : oE (fun E => E = 0 ∨ E = 2) (f_begin S ci st hp) := by
  unfold f_begin
  repeat' first | exact oE.no | exact oE.vl | exact oE.er (by decide) | refine oE.it ?_ ?_ | refine oE.bd (fun _ => ?_)
theorem oe_send {S : xSt} {ci st n v : Int32} : oE (fun E => E = 0 ∨ E = 1 ∨ E = 2) (f_send S ci st n v) := by
  unfold f_send
  repeat' first | exact oE.no | exact oE.vl | exact oE.er (by decide) | refine oE.it ?_ ?_ | refine oE.bd (fun _ => ?_)
theorem oe_end {S : xSt} {ci st : Int32} : oE (fun E => E = 0 ∨ E = 2) (f_end S ci st) := by
  unfold f_end
  repeat' first | exact oE.no | exact oE.vl | exact oE.er (by decide) | refine oE.it ?_ ?_ | refine oE.bd (fun _ => ?_)
theorem oe_truncate {S : xSt} {ci hp : Int32} : oE (fun E => E = 0 ∨ E = 2) (f_truncate S ci hp) := by
  unfold f_truncate
  repeat' first | exact oE.no | exact oE.vl | exact oE.er (by decide) | refine oE.it ?_ ?_ | refine oE.bd (fun _ => ?_)
theorem oe_close {S : xSt} {ci : Int32} : oE (fun E => E = 0 ∨ E = 2) (f_close S ci) := by
  unfold f_close
  repeat' first | exact oE.no | exact oE.vl | exact oE.er (by decide) | refine oE.it ?_ ?_ | refine oE.bd (fun _ => ?_)
theorem oe_deliver {S : xSt} {m : Int32} : oE (fun E => E = 1) (f_deliver S m) := by
  unfold f_deliver
  repeat' first | exact oE.no | exact oE.vl | exact oE.er (by decide) | refine oE.it ?_ ?_ | refine oE.bd (fun _ => ?_)
theorem oe_damage {S : xSt} {i k m : Int32} : oE (fun E => E = 0 ∨ E = 1) (f_damage S i k m) := by
  unfold f_damage
  repeat' first | exact oE.no | exact oE.vl | exact oE.er (by decide) | refine oE.it ?_ ?_ | refine oE.bd (fun _ => ?_)
theorem oe_lose {S : xSt} {i : Int32} : oE (fun E => E = 0) (f_lose S i) := by
  unfold f_lose
  repeat' first | exact oE.no | exact oE.vl | exact oE.er (by decide) | refine oE.it ?_ ?_ | refine oE.bd (fun _ => ?_)
theorem oe_cell {S : xSt} {i wh : Int32} : oE (fun E => E = 0) (f_cell S i wh) := by
  unfold f_cell
  repeat' first | exact oE.no | exact oE.vl | exact oE.er (by decide) | refine oE.it ?_ ?_ | refine oE.bd (fun _ => ?_)
theorem oe_circuit {S : xSt} {ci wh : Int32} : oE (fun E => E = 0) (f_circuit S ci wh) := by
  unfold f_circuit
  repeat' first | exact oE.no | exact oE.vl | exact oE.er (by decide) | refine oE.it ?_ ?_ | refine oE.bd (fun _ => ?_)
theorem oe_key {S : xSt} {ci hp k : Int32} : oE (fun E => E = 0) (f_key S ci hp k) := by
  unfold f_key
  repeat' first | exact oE.no | exact oE.vl | exact oE.er (by decide) | refine oE.it ?_ ?_ | refine oE.bd (fun _ => ?_)
theorem oe_relay {S : xSt} {rl ci wh : Int32} : oE (fun E => E = 0) (f_relay S rl ci wh) := by
  unfold f_relay
  repeat' first | exact oE.no | exact oE.vl | exact oE.er (by decide) | refine oE.it ?_ ?_ | refine oE.bd (fun _ => ?_)
theorem oe_data {S : xSt} {ci i : Int32} : oE (fun E => E = 0) (f_data S ci i) := by
  unfold f_data
  repeat' first | exact oE.no | exact oE.vl | exact oE.er (by decide) | refine oE.it ?_ ?_ | refine oE.bd (fun _ => ?_)
theorem oe_count {S : xSt} {wh : Int32} : oE (fun E => E = 0) (f_count S wh) := by
  unfold f_count
  repeat' first | exact oE.no | exact oE.vl | exact oE.er (by decide) | refine oE.it ?_ ?_ | refine oE.bd (fun _ => ?_)
