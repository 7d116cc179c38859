section PassLoops
theorem am_lnone {G : am_G} {X : am_X} {Y : am_Y} {d mc ms : Nat} {Q : State → Prop} {pc k n : Nat} {ls : List (Option am_AV)} {st : List am_AV} {h : am_AH} (i : Nat) (kk : am_W G X Y d mc ms Q pc (ls.set i none) st h k n) : am_W G X Y d mc ms Q pc ls st h k n := am_ldrop i kk
end PassLoops
