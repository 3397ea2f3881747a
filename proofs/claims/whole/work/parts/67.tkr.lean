/-! the model's rows beside the rows of a class's heap that is not the one at hand -/
section P67
variable {h c k : HP}
def TKR (c k : HP) (B : Int) : Prop := OKC c B ∧
  (k 70 = c 3 ∧ k 71 = c 4 ∧ k 72 = c 5 ∧ k 73 = c 7 ∧ k 74 = c 6 ∧ k 75 = c 8) ∧
  (k 79 = c 31 ∧ k 80 = c 32 ∧ k 81 = c 33 ∧ k 82 = c 34) ∧
  (k 83 = c 13 ∧ k 84 = c 14 ∧ k 85 = c 15 ∧ k 86 = c 18 ∧ k 87 = c 19 ∧ k 88 = c 20 ∧ k 89 = c 21) ∧
  (k 90 = c 23 ∧ k 91 = c 24 ∧ k 93 = c 27 ∧ k 94 = c 28 ∧ k 95 = c 29) ∧
  (k 69 9 = c 2 0 ∧ k 69 17 = c 12 1 ∧ k 69 22 = c 17 1 ∧ k 69 26 = c 22 2 ∧ k 69 30 = c 26 2 ∧ k 69 31 = c 30 5) ∧
  (k 2 = c 2 ∧ k 12 = c 12 ∧ k 17 = c 17 ∧ k 22 = c 22 ∧ k 26 = c 26) ∧
  (k 39 = c 39 ∧ k 40 = c 40 ∧ k 103 = c 103 ∧ k 104 = c 104) ∧
  (flp (c 8) (c 9) (k 76) ∧ rgA (c 21) 0 1 ∧ rgA (k 92) 0 1)
theorem TKR_of (hR : R h) : TKR h h (2000000 + 40000 * h 0 8) := by
  have hO := OKC_of hR
  obtain ⟨⟨r1, r2, r3, r4, r5, r6, r7, r8⟩, ⟨r9, r10, r11, r12, r13⟩, ⟨r14, r15, r16, r17, r18, r19, r20⟩, ⟨r21, r22, r23, r24, r25, r26⟩, ⟨r27, r28, r29, r30, r31⟩, ⟨r32, r33⟩, ⟨r34, r35, r36, r37, r38, r39, r40, r41, r42, r43, r44, r45⟩, ⟨r46, r47, r48⟩, ⟨r49, r50, r51, r52, r53, r54, r55⟩, ⟨r56, r57, r58, r59, r60, r61, r62, r63, r64, r65⟩, ⟨r66, r67, r68, r69, r70, r71, r72, r73, r74, r75⟩, ⟨r76, r77, r78, r79, r80, r81, r82, r83⟩, ⟨r84, r85, r86, r87, r88, r89⟩, ⟨r90, r91, r92, r93, r94, r95, r96, r97, r98⟩, ⟨r99, r100, r101, r102, r103, r104, r105, r106⟩, ⟨r107, r108, r109, r110, r111, r112, r113⟩, ⟨r114, r115, r116, r117, r118, r119, r120, r121, r122, r123⟩⟩ := id hR
  exact ⟨hO, ⟨r1.symm, r2.symm, r3.symm, r4.symm, r5.symm, r6.symm⟩, ⟨r9.symm, r10.symm, r11.symm, r12.symm⟩, ⟨r14.symm, r15.symm, r16.symm, r17.symm, r18.symm, r19.symm, r20.symm⟩, ⟨r21.symm, r22.symm, r24.symm, r25.symm, r26.symm⟩, ⟨r34.symm, r35.symm, r36.symm, r37.symm, r38.symm, r39.symm⟩, ⟨rfl, rfl, rfl, rfl, rfl⟩, ⟨rfl, rfl, rfl, rfl⟩, ⟨r81, r98, by rw [← r23]; exact r102⟩⟩
end P67
