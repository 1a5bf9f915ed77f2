theorem m_st_0 (u v : Int32) (b : mB) : m_st 0 u v b = b := by unfold m_st; rw [if_neg (by omega), if_pos rfl]
def m_lvl (ol : Nat → Int32) (H : Nat → Int32 → Int32 → Int32 → Int32) (nc lv : Nat) (B : mB) : Nat → Int32 := if B.1 = 0 then ol else m_ol (fun t => H t B.2.1 B.2.2 1) (fun t => H t B.2.1 B.2.2 2) lv nc 0 ol
section WN3
variable {p : Program} {l : Launch} {e : Env} {R : Room} {s : State} {m : MethodId} {args : Array Value} {below : List Frame} {meth : Method} {c : Code} {H : Heap} {locs : List Loc} {cells slots : Nat} {Q : State → Prop}
variable {pc : Nat} {ls : Array Slot} {rest : List Value}
theorem wt_i {x y : Int32} (h : x = y) (kk : W p l e R s m args below meth c H locs cells slots Q (F0 m pc ls (.int y :: rest))) : W p l e R s m args below meth c H locs cells slots Q (F0 m pc ls (.int x :: rest)) := by
  rw [h]; exact kk
end WN3
