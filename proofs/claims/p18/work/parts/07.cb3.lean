section Calls
variable {p : Program} {l : Launch} {e : Env} {R : Room} {s : State} {m : MethodId} {args : Array Value} {below : List Frame} {meth : Method} {c0 : Code} {Q : State → Prop} {dC : Nat → ClassId} {dI : Nat → Nat → Nat} {aC : Nat → ClassId} {pre : Nat → Nat} {base : Nat} {xs : List Int32} {mm : pm_M} {k : pm_K} {r : Option Value × pm_H} {pc : Nat} {lv : pm_L} {st : List Value} {h : pm_H} {c sl : Nat}
theorem ps_ins3 (X : pm_X p R s m args meth c0 dC dI aC pre base xs mm) {tab : Nat → Option pm_M} {big : Nat → List Value → pm_H → pm_R} {ix M2 : Nat} {m2 : pm_M} (htab : tab M2 = some m2) (hbig : ∀ as h r, big M2 as h = some r → pm_Met l dC dI aC pre base xs m2 as h r) (hf : pm_ok3 mm ix m2) (hd : decode (pm_b mm) pc = .ok (.invokestatic ix, 3)) (ih : pm_IH p l e R s m args below meth c0 Q dC dI aC pre base mm k r) (hk : pm_ins k tab big mm M2 pc lv st h c sl = some r) : pm_W p l e R s m args below meth c0 Q dC dI aC pre base mm pc lv st h c sl := by
  obtain ⟨hx, hb, hml, hown, hts, hin, hK, hX, hb0, hb1, hN, rfl⟩ := X
  unfold pm_ins at hk
  rw [htab] at hk
  dsimp only at hk
  split at hk
  · rename_i hn
    unfold pm_call at hk
    split at hk
    · rename_i hcat
      split at hk
      · rename_i hc1
        split at hk
        · rename_i hs1
          split at hk
          · rename_i rv rh hbg
            intro H locs ls hc hs hl hP hz hS
            have hmap : st.map (pm_rv pre base) = ((st.take (pm_n m2)).reverse.map (pm_rv pre base)).reverse ++ (st.drop (pm_n m2)).map (pm_rv pre base) := by
              conv => lhs; rw [← List.take_append_drop (pm_n m2) st]
              rw [List.map_append, List.map_reverse, List.reverse_reverse]
            rw [hmap]
            have hnest : va_Nw (.methodLinkNest (kN (pm_o mm)) ix (pm_y m2) "MoodTown") s := hN.2.2 (kN (pm_o mm), ix, pm_y m2) hf.2.1
            exact pm_back (rr := (rv, rh)) (va_runSN (host := "MoodTown") (As := (st.take (pm_n m2)).reverse.map (pm_rv pre base)) (rest := (st.drop (pm_n m2)).map (pm_rv pre base)) ⟨hx, hb, hml, hown, hts⟩ (hbig _ _ _ hbg) ⟨va_cnB (pm_n m2) hts (pm_good (fun w hw => by
              rcases List.mem_cons.mp hw with rfl | hw
              · exact hf.1.1
              · exact hw)) rfl rfl rfl hnest (hts _ hf.1.2.1) hf.1.2.2 hf.2.2.2, hts _ hf.2.2.1, trivial⟩ ⟨pm_blind, fun U hU hW => pm_pre hK hX hN hb0 hb1 hP hz hS rfl hU hW⟩ rfl (by rw [List.length_map, List.length_reverse, List.length_take]; omega) hl.1 rfl (lv_room (by rw [pm_cats]; exact hcat)) hd ⟨hc1, hs1⟩) ih hk hc1 hs1 hl hS
          · cases hk
        · cases hk
      · cases hk
    · cases hk
  · cases hk
end Calls
