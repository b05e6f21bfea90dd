/-! the mark of a refused call stays as it is while a cell goes -/
def keeps (A : Option xVt) (x : Int32) : Prop := ∀ T, A = some T → T.2.1 165 0 = x
def keep2 (A : Option (Int32 × xVt)) (x : Int32) : Prop := ∀ T, A = some T → T.2.2.1 165 0 = x
theorem kif {p : Prop} [Decidable p] {a b : Option xVt} {x : Int32} (h1 : keeps a x) (h2 : keeps b x) : keeps (if p then a else b) x := by
  by_cases q : p
  · rw [if_pos q]; exact h1
  · rw [if_neg q]; exact h2
theorem kno {x : Int32} : keeps none x := fun _ q => by cases q
theorem kso {V : xVt} {x : Int32} (h : V.2.1 165 0 = x) : keeps (some V) x := fun _ q => by cases q; exact h
theorem kbk {A : Option xVt} {k : xVt → Option xVt} {x : Int32} (h1 : keeps A x) (h2 : ∀ a, a.2.1 165 0 = x → keeps (k a) x) : keeps (A.bind k) x := fun T q => by
  obtain ⟨a, e1, e2⟩ := Option.bind_eq_some_iff.mp q
  exact h2 a (h1 a e1) T e2
theorem kb2 {A : Option (Int32 × xVt)} {k : Int32 × xVt → Option xVt} {x : Int32} (h1 : keep2 A x) (h2 : ∀ a, a.2.2.1 165 0 = x → keeps (k a) x) : keeps (A.bind k) x := fun T q => by
  obtain ⟨a, e1, e2⟩ := Option.bind_eq_some_iff.mp q
  exact h2 a (h1 a e1) T e2
theorem kbi {A : Option Int32} {k : Int32 → Option xVt} {x : Int32} (h2 : ∀ a, keeps (k a) x) : keeps (A.bind k) x := fun T q => by
  obtain ⟨a, e1, e2⟩ := Option.bind_eq_some_iff.mp q
  exact h2 a T e2
theorem n_seal {V : xVt} {key x : Int32} (h : V.2.1 165 0 = x) : keep2 (g_seal V key) x := fun T q => by
  unfold g_seal at q
  simp only [bsm] at q
  cases q
  exact h
set_option maxRecDepth 100000 in
theorem n_ship {V : xVt} {a b c e g : Int32} {x : Int32} (h : V.2.1 165 0 = x) : keeps (g_ship V a b c e g) x := by
  unfold g_ship
  repeat' (first | with_reducible apply kif | with_reducible apply kno | with_reducible refine kbk ?_ (fun _ _ => ?_) | with_reducible refine kb2 (n_seal ?_) (fun _ _ => ?_) | with_reducible refine kbi (fun _ => ?_) | with_reducible apply kso | assumption)
set_option maxRecDepth 100000 in
theorem n_agree {V : xVt} {s t y z n : Int32} {x : Int32} (h : V.2.1 165 0 = x) : keeps (g_agree V s t y z n) x := by
  unfold g_agree
  repeat' (first | with_reducible apply kif | with_reducible apply kno | with_reducible refine kbk ?_ (fun _ _ => ?_) | with_reducible refine kb2 (n_seal ?_) (fun _ _ => ?_) | with_reducible refine kbi (fun _ => ?_) | with_reducible apply n_ship | with_reducible apply kso | assumption)
set_option maxRecDepth 100000 in
theorem n_order {V : xVt} {o s n : Int32} {x : Int32} (h : V.2.1 165 0 = x) : keeps (g_order V o s n) x := by
  unfold g_order
  repeat' (first | with_reducible apply kif | with_reducible apply kno | with_reducible refine kbk ?_ (fun _ _ => ?_) | with_reducible refine kb2 (n_seal ?_) (fun _ _ => ?_) | with_reducible refine kbi (fun _ => ?_) | with_reducible apply n_ship | with_reducible apply n_agree | with_reducible apply kso | assumption)
set_option maxRecDepth 100000 in
theorem n_destroy {V : xVt} {f t c : Int32} {x : Int32} (h : V.2.1 165 0 = x) : keeps (g_destroy V f t c) x := by
  unfold g_destroy
  repeat' (first | with_reducible apply kif | with_reducible apply kno | with_reducible refine kbk ?_ (fun _ _ => ?_) | with_reducible refine kb2 (n_seal ?_) (fun _ _ => ?_) | with_reducible refine kbi (fun _ => ?_) | with_reducible apply n_ship | with_reducible apply n_agree | with_reducible apply n_order | with_reducible apply kso | assumption)
set_option maxRecDepth 100000 in
theorem n_ended {V : xVt} {c : Nat} {x : Int32} (h : V.2.1 165 0 = x) : keeps (g_ended V c) x := by
  unfold g_ended
  repeat' (first | with_reducible apply kif | with_reducible apply kno | with_reducible refine kbk ?_ (fun _ _ => ?_) | with_reducible refine kb2 (n_seal ?_) (fun _ _ => ?_) | with_reducible refine kbi (fun _ => ?_) | with_reducible apply n_ship | with_reducible apply n_agree | with_reducible apply n_order | with_reducible apply n_destroy | with_reducible apply kso | assumption)
set_option maxRecDepth 100000 in
theorem n_closeNow {V : xVt} {c : Nat} {x : Int32} (h : V.2.1 165 0 = x) : keeps (g_closeNow V c) x := by
  unfold g_closeNow
  repeat' (first | with_reducible apply kif | with_reducible apply kno | with_reducible refine kbk ?_ (fun _ _ => ?_) | with_reducible refine kb2 (n_seal ?_) (fun _ _ => ?_) | with_reducible refine kbi (fun _ => ?_) | with_reducible apply n_ship | with_reducible apply n_agree | with_reducible apply n_order | with_reducible apply n_destroy | with_reducible apply n_ended | with_reducible apply kso | assumption)
set_option maxRecDepth 100000 in
theorem n_clientSends {V : xVt} {c : Nat} {k : Int32} {x : Int32} (h : V.2.1 165 0 = x) : keeps (g_clientSends V c k) x := by
  unfold g_clientSends
  repeat' (first | with_reducible apply kif | with_reducible apply kno | with_reducible refine kbk ?_ (fun _ _ => ?_) | with_reducible refine kb2 (n_seal ?_) (fun _ _ => ?_) | with_reducible refine kbi (fun _ => ?_) | with_reducible apply n_ship | with_reducible apply n_agree | with_reducible apply n_order | with_reducible apply n_destroy | with_reducible apply n_ended | with_reducible apply n_closeNow | with_reducible apply kso | assumption)
set_option maxRecDepth 100000 in
theorem n_meet {V : xVt} {c : Nat} {y tg : Int32} {x : Int32} (h : V.2.1 165 0 = x) : keeps (g_meet V c y tg) x := by
  unfold g_meet
  repeat' (first | with_reducible apply kif | with_reducible apply kno | with_reducible refine kbk ?_ (fun _ _ => ?_) | with_reducible refine kb2 (n_seal ?_) (fun _ _ => ?_) | with_reducible refine kbi (fun _ => ?_) | with_reducible apply n_ship | with_reducible apply n_agree | with_reducible apply n_order | with_reducible apply n_destroy | with_reducible apply n_ended | with_reducible apply n_closeNow | with_reducible apply n_clientSends | with_reducible apply kso | assumption)
set_option maxRecDepth 100000 in
theorem n_destroyOn {V : xVt} {i c : Nat} {x : Int32} (h : V.2.1 165 0 = x) : keeps (g_destroyOn V i c) x := by
  unfold g_destroyOn
  repeat' (first | with_reducible apply kif | with_reducible apply kno | with_reducible refine kbk ?_ (fun _ _ => ?_) | with_reducible refine kb2 (n_seal ?_) (fun _ _ => ?_) | with_reducible refine kbi (fun _ => ?_) | with_reducible apply n_ship | with_reducible apply n_agree | with_reducible apply n_order | with_reducible apply n_destroy | with_reducible apply n_ended | with_reducible apply n_closeNow | with_reducible apply n_clientSends | with_reducible apply n_meet | with_reducible apply kso | assumption)
set_option maxRecDepth 100000 in
theorem n_tear {V : xVt} {i c : Nat} {x : Int32} (h : V.2.1 165 0 = x) : keeps (g_tear V i c) x := by
  unfold g_tear
  repeat' (first | with_reducible apply kif | with_reducible apply kno | with_reducible refine kbk ?_ (fun _ _ => ?_) | with_reducible refine kb2 (n_seal ?_) (fun _ _ => ?_) | with_reducible refine kbi (fun _ => ?_) | with_reducible apply n_ship | with_reducible apply n_agree | with_reducible apply n_order | with_reducible apply n_destroy | with_reducible apply n_ended | with_reducible apply n_closeNow | with_reducible apply n_clientSends | with_reducible apply n_meet | with_reducible apply n_destroyOn | with_reducible apply kso | assumption)
set_option maxRecDepth 100000 in
theorem n_relaySends {V : xVt} {i c : Nat} {x : Int32} (h : V.2.1 165 0 = x) : keeps (g_relaySends V i c) x := by
  unfold g_relaySends
  repeat' (first | with_reducible apply kif | with_reducible apply kno | with_reducible refine kbk ?_ (fun _ _ => ?_) | with_reducible refine kb2 (n_seal ?_) (fun _ _ => ?_) | with_reducible refine kbi (fun _ => ?_) | with_reducible apply n_ship | with_reducible apply n_agree | with_reducible apply n_order | with_reducible apply n_destroy | with_reducible apply n_ended | with_reducible apply n_closeNow | with_reducible apply n_clientSends | with_reducible apply n_meet | with_reducible apply n_destroyOn | with_reducible apply n_tear | with_reducible apply kso | assumption)
set_option maxRecDepth 100000 in
theorem n_begun {V : xVt} {i : Nat} {f : Int32} {c : Nat} {x : Int32} (h : V.2.1 165 0 = x) : keeps (g_begun V i f c) x := by
  unfold g_begun
  repeat' (first | with_reducible apply kif | with_reducible apply kno | with_reducible refine kbk ?_ (fun _ _ => ?_) | with_reducible refine kb2 (n_seal ?_) (fun _ _ => ?_) | with_reducible refine kbi (fun _ => ?_) | with_reducible apply n_ship | with_reducible apply n_agree | with_reducible apply n_order | with_reducible apply n_destroy | with_reducible apply n_ended | with_reducible apply n_closeNow | with_reducible apply n_clientSends | with_reducible apply n_meet | with_reducible apply n_destroyOn | with_reducible apply n_tear | with_reducible apply n_relaySends | with_reducible apply kso | assumption)
set_option maxRecDepth 100000 in
theorem n_extendAt {V : xVt} {i c : Nat} {x : Int32} (h : V.2.1 165 0 = x) : keeps (g_extendAt V i c) x := by
  unfold g_extendAt
  repeat' (first | with_reducible apply kif | with_reducible apply kno | with_reducible refine kbk ?_ (fun _ _ => ?_) | with_reducible refine kb2 (n_seal ?_) (fun _ _ => ?_) | with_reducible refine kbi (fun _ => ?_) | with_reducible apply n_ship | with_reducible apply n_agree | with_reducible apply n_order | with_reducible apply n_destroy | with_reducible apply n_ended | with_reducible apply n_closeNow | with_reducible apply n_clientSends | with_reducible apply n_meet | with_reducible apply n_destroyOn | with_reducible apply n_tear | with_reducible apply n_relaySends | with_reducible apply n_begun | with_reducible apply kso | assumption)
set_option maxRecDepth 100000 in
theorem n_dataAt {V : xVt} {i c : Nat} {s op : Int32} {x : Int32} (h : V.2.1 165 0 = x) : keeps (g_dataAt V i c s op) x := by
  unfold g_dataAt
  repeat' (first | with_reducible apply kif | with_reducible apply kno | with_reducible refine kbk ?_ (fun _ _ => ?_) | with_reducible refine kb2 (n_seal ?_) (fun _ _ => ?_) | with_reducible refine kbi (fun _ => ?_) | with_reducible apply n_ship | with_reducible apply n_agree | with_reducible apply n_order | with_reducible apply n_destroy | with_reducible apply n_ended | with_reducible apply n_closeNow | with_reducible apply n_clientSends | with_reducible apply n_meet | with_reducible apply n_destroyOn | with_reducible apply n_tear | with_reducible apply n_relaySends | with_reducible apply n_begun | with_reducible apply n_extendAt | with_reducible apply kso | assumption)
set_option maxRecDepth 100000 in
theorem n_relayFollows {V : xVt} {i c : Nat} {x : Int32} (h : V.2.1 165 0 = x) : keeps (g_relayFollows V i c) x := by
  unfold g_relayFollows
  repeat' (first | with_reducible apply kif | with_reducible apply kno | with_reducible refine kbk ?_ (fun _ _ => ?_) | with_reducible refine kb2 (n_seal ?_) (fun _ _ => ?_) | with_reducible refine kbi (fun _ => ?_) | with_reducible apply n_ship | with_reducible apply n_agree | with_reducible apply n_order | with_reducible apply n_destroy | with_reducible apply n_ended | with_reducible apply n_closeNow | with_reducible apply n_clientSends | with_reducible apply n_meet | with_reducible apply n_destroyOn | with_reducible apply n_tear | with_reducible apply n_relaySends | with_reducible apply n_begun | with_reducible apply n_extendAt | with_reducible apply n_dataAt | with_reducible apply kso | assumption)
set_option maxRecDepth 100000 in
theorem n_relayed {V : xVt} {i : Nat} {f : Int32} {c : Nat} {x : Int32} (h : V.2.1 165 0 = x) : keeps (g_relayed V i f c) x := by
  unfold g_relayed
  repeat' (first | with_reducible apply kif | with_reducible apply kno | with_reducible refine kbk ?_ (fun _ _ => ?_) | with_reducible refine kb2 (n_seal ?_) (fun _ _ => ?_) | with_reducible refine kbi (fun _ => ?_) | with_reducible apply n_ship | with_reducible apply n_agree | with_reducible apply n_order | with_reducible apply n_destroy | with_reducible apply n_ended | with_reducible apply n_closeNow | with_reducible apply n_clientSends | with_reducible apply n_meet | with_reducible apply n_destroyOn | with_reducible apply n_tear | with_reducible apply n_relaySends | with_reducible apply n_begun | with_reducible apply n_extendAt | with_reducible apply n_dataAt | with_reducible apply n_relayFollows | with_reducible apply kso | assumption)
set_option maxRecDepth 100000 in
theorem n_toRelay {V : xVt} {i : Nat} {f : Int32} {c : Nat} {cm : Int32} {x : Int32} (h : V.2.1 165 0 = x) : keeps (g_toRelay V i f c cm) x := by
  unfold g_toRelay
  repeat' (first | with_reducible apply kif | with_reducible apply kno | with_reducible refine kbk ?_ (fun _ _ => ?_) | with_reducible refine kb2 (n_seal ?_) (fun _ _ => ?_) | with_reducible refine kbi (fun _ => ?_) | with_reducible apply n_ship | with_reducible apply n_agree | with_reducible apply n_order | with_reducible apply n_destroy | with_reducible apply n_ended | with_reducible apply n_closeNow | with_reducible apply n_clientSends | with_reducible apply n_meet | with_reducible apply n_destroyOn | with_reducible apply n_tear | with_reducible apply n_relaySends | with_reducible apply n_begun | with_reducible apply n_extendAt | with_reducible apply n_dataAt | with_reducible apply n_relayFollows | with_reducible apply n_relayed | with_reducible apply kso | assumption)
set_option maxRecDepth 100000 in
theorem n_ofStream {V : xVt} {c : Nat} {k o : Int32} {x : Int32} (h : V.2.1 165 0 = x) : keeps (g_ofStream V c k o) x := by
  unfold g_ofStream
  repeat' (first | with_reducible apply kif | with_reducible apply kno | with_reducible refine kbk ?_ (fun _ _ => ?_) | with_reducible refine kb2 (n_seal ?_) (fun _ _ => ?_) | with_reducible refine kbi (fun _ => ?_) | with_reducible apply n_ship | with_reducible apply n_agree | with_reducible apply n_order | with_reducible apply n_destroy | with_reducible apply n_ended | with_reducible apply n_closeNow | with_reducible apply n_clientSends | with_reducible apply n_meet | with_reducible apply n_destroyOn | with_reducible apply n_tear | with_reducible apply n_relaySends | with_reducible apply n_begun | with_reducible apply n_extendAt | with_reducible apply n_dataAt | with_reducible apply n_relayFollows | with_reducible apply n_relayed | with_reducible apply n_toRelay | with_reducible apply kso | assumption)
set_option maxRecDepth 100000 in
theorem n_clientFollows {V : xVt} {c : Nat} {k : Int32} {x : Int32} (h : V.2.1 165 0 = x) : keeps (g_clientFollows V c k) x := by
  unfold g_clientFollows
  repeat' (first | with_reducible apply kif | with_reducible apply kno | with_reducible refine kbk ?_ (fun _ _ => ?_) | with_reducible refine kb2 (n_seal ?_) (fun _ _ => ?_) | with_reducible refine kbi (fun _ => ?_) | with_reducible apply n_ship | with_reducible apply n_agree | with_reducible apply n_order | with_reducible apply n_destroy | with_reducible apply n_ended | with_reducible apply n_closeNow | with_reducible apply n_clientSends | with_reducible apply n_meet | with_reducible apply n_destroyOn | with_reducible apply n_tear | with_reducible apply n_relaySends | with_reducible apply n_begun | with_reducible apply n_extendAt | with_reducible apply n_dataAt | with_reducible apply n_relayFollows | with_reducible apply n_relayed | with_reducible apply n_toRelay | with_reducible apply n_ofStream | with_reducible apply kso | assumption)
set_option maxRecDepth 100000 in
theorem n_toClient {V : xVt} {f : Int32} {c : Nat} {cm : Int32} {x : Int32} (h : V.2.1 165 0 = x) : keeps (g_toClient V f c cm) x := by
  unfold g_toClient
  repeat' (first | with_reducible apply kif | with_reducible apply kno | with_reducible refine kbk ?_ (fun _ _ => ?_) | with_reducible refine kb2 (n_seal ?_) (fun _ _ => ?_) | with_reducible refine kbi (fun _ => ?_) | with_reducible apply n_ship | with_reducible apply n_agree | with_reducible apply n_order | with_reducible apply n_destroy | with_reducible apply n_ended | with_reducible apply n_closeNow | with_reducible apply n_clientSends | with_reducible apply n_meet | with_reducible apply n_destroyOn | with_reducible apply n_tear | with_reducible apply n_relaySends | with_reducible apply n_begun | with_reducible apply n_extendAt | with_reducible apply n_dataAt | with_reducible apply n_relayFollows | with_reducible apply n_relayed | with_reducible apply n_toRelay | with_reducible apply n_ofStream | with_reducible apply n_clientFollows | with_reducible apply kso | assumption)
set_option maxRecDepth 100000 in
theorem n_remove {V : xVt} {i : Int32} {x : Int32} (h : V.2.1 165 0 = x) : keeps (g_remove V i) x := by
  unfold g_remove
  repeat' (first | with_reducible apply kif | with_reducible apply kno | with_reducible refine kbk ?_ (fun _ _ => ?_) | with_reducible refine kb2 (n_seal ?_) (fun _ _ => ?_) | with_reducible refine kbi (fun _ => ?_) | with_reducible apply n_ship | with_reducible apply n_agree | with_reducible apply n_order | with_reducible apply n_destroy | with_reducible apply n_ended | with_reducible apply n_closeNow | with_reducible apply n_clientSends | with_reducible apply n_meet | with_reducible apply n_destroyOn | with_reducible apply n_tear | with_reducible apply n_relaySends | with_reducible apply n_begun | with_reducible apply n_extendAt | with_reducible apply n_dataAt | with_reducible apply n_relayFollows | with_reducible apply n_relayed | with_reducible apply n_toRelay | with_reducible apply n_ofStream | with_reducible apply n_clientFollows | with_reducible apply n_toClient | with_reducible apply kso | assumption)
set_option maxRecDepth 100000 in
theorem n_step {V : xVt} {x : Int32} (h : V.2.1 165 0 = x) : keeps (g_step V) x := by
  unfold g_step
  repeat' (first | with_reducible apply kif | with_reducible apply kno | with_reducible refine kbk ?_ (fun _ _ => ?_) | with_reducible refine kb2 (n_seal ?_) (fun _ _ => ?_) | with_reducible refine kbi (fun _ => ?_) | with_reducible apply n_ship | with_reducible apply n_agree | with_reducible apply n_order | with_reducible apply n_destroy | with_reducible apply n_ended | with_reducible apply n_closeNow | with_reducible apply n_clientSends | with_reducible apply n_meet | with_reducible apply n_destroyOn | with_reducible apply n_tear | with_reducible apply n_relaySends | with_reducible apply n_begun | with_reducible apply n_extendAt | with_reducible apply n_dataAt | with_reducible apply n_relayFollows | with_reducible apply n_relayed | with_reducible apply n_toRelay | with_reducible apply n_ofStream | with_reducible apply n_clientFollows | with_reducible apply n_toClient | with_reducible apply n_remove | with_reducible apply kso | assumption)
