theorem ix_wY1 : ix_PY 1 := ⟨Or.inr ⟨(fun z => by cases z), rfl⟩, plainFor_of_name ix_pn0, rfl, ix_de63, ix_mh0, rfl, (fun _ => rfl), (fun z => by cases z), (fun z => by cases z), (fun z => by cases z)⟩
theorem ix_wY2 : ix_PY 2 := ⟨Or.inr ⟨(fun z => by cases z), rfl⟩, plainFor_of_name ix_pn0, rfl, ix_de64, ix_mh0, rfl, (fun _ => rfl), (fun z => by cases z), (fun z => by cases z), (fun z => by cases z)⟩
theorem ix_wY3 : ix_PY 3 := ⟨Or.inr ⟨(fun z => by cases z), rfl⟩, plainFor_of_name ix_pn0, rfl, ix_de64, ix_mh0, rfl, (fun _ => rfl), (fun z => by cases z), (fun z => by cases z), (fun z => by cases z)⟩
theorem ix_wY4 : ix_PY 4 := ⟨Or.inr ⟨(fun z => by cases z), rfl⟩, plainFor_of_name ix_pn0, rfl, ix_de65, ix_mh0, rfl, (fun _ => rfl), (fun z => by cases z), (fun z => by cases z), (fun z => by cases z)⟩
theorem ix_wY5 : ix_PY 5 := ⟨Or.inr ⟨(fun z => by cases z), rfl⟩, plainFor_of_name ix_pn0, rfl, ix_de65, ix_mh0, rfl, (fun _ => rfl), (fun z => by cases z), (fun z => by cases z), (fun z => by cases z)⟩
theorem ix_wY6 : ix_PY 6 := ⟨Or.inr ⟨(fun z => by cases z), rfl⟩, plainFor_of_name ix_pn0, rfl, ix_de65, ix_mh0, rfl, (fun _ => rfl), (fun z => by cases z), (fun z => by cases z), (fun z => by cases z)⟩
theorem ix_wY7 : ix_PY 7 := ⟨Or.inr ⟨(fun z => by cases z), rfl⟩, plainFor_of_name ix_pn0, rfl, ix_de64, ix_mh0, rfl, (fun _ => rfl), (fun z => by cases z), (fun z => by cases z), (fun z => by cases z)⟩
theorem ix_wY8 : ix_PY 8 := ⟨Or.inr ⟨(fun z => by cases z), rfl⟩, plainFor_of_name ix_pn0, rfl, ix_de66, ix_mh0, rfl, (fun _ => rfl), (fun z => by cases z), (fun z => by cases z), (fun z => by cases z)⟩
theorem ix_wY9 : ix_PY 9 := ⟨Or.inr ⟨(fun z => by cases z), rfl⟩, plainFor_of_name ix_pn0, rfl, ix_de68, ix_mh0, rfl, (fun _ => rfl), (fun z => by cases z), (fun z => by cases z), (fun z => by cases z)⟩
theorem ix_wY10 : ix_PY 10 := ⟨Or.inr ⟨(fun z => by cases z), rfl⟩, plainFor_of_name ix_pn0, rfl, ix_de66, ix_mh0, rfl, (fun _ => rfl), (fun z => by cases z), (fun z => by cases z), (fun z => by cases z)⟩
theorem ix_wY11 : ix_PY 11 := ⟨Or.inr ⟨(fun z => by cases z), rfl⟩, plainFor_of_name ix_pn0, rfl, ix_de67, ix_mh0, rfl, (fun _ => rfl), (fun z => by cases z), (fun z => by cases z), (fun z => by cases z)⟩
theorem ix_wY12 : ix_PY 12 := ⟨Or.inr ⟨(fun z => by cases z), rfl⟩, plainFor_of_name ix_pn0, rfl, ix_de67, ix_mh0, rfl, (fun _ => rfl), (fun z => by cases z), (fun z => by cases z), (fun z => by cases z)⟩
theorem ix_wY13 : ix_PY 13 := ⟨Or.inr ⟨(fun z => by cases z), rfl⟩, plainFor_of_name ix_pn0, rfl, ix_de68, ix_mh0, rfl, (fun _ => rfl), (fun z => by cases z), (fun z => by cases z), (fun z => by cases z)⟩
theorem ix_wY14 : ix_PY 14 := ⟨Or.inl ⟨rfl, rfl⟩, plainFor_of_name ix_pn1, rfl, ix_de2, ix_mh1, rfl, (fun z => by cases z), (fun _ => rfl), (fun _ z => by cases z), (fun _ => ⟨rfl, rfl, rfl⟩)⟩
theorem ix_wY15 : ix_PY 15 := ⟨Or.inl ⟨rfl, rfl⟩, plainFor_of_name ix_pn1, rfl, ix_de11, ix_mh1, rfl, (fun z => by cases z), (fun _ => rfl), (fun _ _ _ => ⟨rfl, rfl⟩), (fun z => by cases z)⟩
theorem ix_wY16 : ix_PY 16 := ⟨Or.inl ⟨rfl, rfl⟩, plainFor_of_name ix_pn1, rfl, ix_de10, ix_mh1, rfl, (fun _ => rfl), (fun z => by cases z), (fun z => by cases z), (fun z => by cases z)⟩
theorem ix_wY17 : ix_PY 17 := ⟨Or.inl ⟨rfl, rfl⟩, plainFor_of_name ix_pn1, rfl, ix_de7, ix_mh1, rfl, (fun z => by cases z), (fun _ => rfl), (fun _ _ _ => ⟨rfl, rfl⟩), (fun z => by cases z)⟩
theorem ix_wY18 : ix_PY 18 := ⟨Or.inl ⟨rfl, rfl⟩, plainFor_of_name ix_pn1, rfl, ix_de10, ix_mh1, rfl, (fun z => by cases z), (fun _ => rfl), (fun _ _ _ => ⟨rfl, rfl⟩), (fun z => by cases z)⟩
theorem ix_wY19 : ix_PY 19 := ⟨Or.inl ⟨rfl, rfl⟩, plainFor_of_name ix_pn1, rfl, ix_de1, ix_mh1, rfl, (fun z => by cases z), (fun _ => rfl), (fun _ _ _ => ⟨rfl, rfl⟩), (fun z => by cases z)⟩
theorem ix_wY20 : ix_PY 20 := ⟨Or.inl ⟨rfl, rfl⟩, plainFor_of_name ix_pn1, rfl, ix_de7, ix_mh1, rfl, (fun z => by cases z), (fun _ => rfl), (fun _ _ _ => ⟨rfl, rfl⟩), (fun z => by cases z)⟩
theorem ix_wY21 : ix_PY 21 := ⟨Or.inl ⟨rfl, rfl⟩, plainFor_of_name ix_pn1, rfl, ix_de9, ix_mh1, rfl, (fun z => by cases z), (fun _ => rfl), (fun _ _ _ => ⟨rfl, rfl⟩), (fun z => by cases z)⟩
theorem ix_wY22 : ix_PY 22 := ⟨Or.inl ⟨rfl, rfl⟩, plainFor_of_name ix_pn1, rfl, ix_de7, ix_mh1, rfl, (fun z => by cases z), (fun _ => rfl), (fun _ _ _ => ⟨rfl, rfl⟩), (fun z => by cases z)⟩
theorem ix_wY23 : ix_PY 23 := ⟨Or.inl ⟨rfl, rfl⟩, plainFor_of_name ix_pn1, rfl, ix_de13, ix_mh1, rfl, (fun z => by cases z), (fun _ => rfl), (fun _ _ _ => ⟨rfl, rfl⟩), (fun z => by cases z)⟩
theorem ix_wY24 : ix_PY 24 := ⟨Or.inl ⟨rfl, rfl⟩, plainFor_of_name ix_pn1, rfl, ix_de13, ix_mh1, rfl, (fun z => by cases z), (fun _ => rfl), (fun _ _ _ => ⟨rfl, rfl⟩), (fun z => by cases z)⟩
theorem ix_wY25 : ix_PY 25 := ⟨Or.inl ⟨rfl, rfl⟩, plainFor_of_name ix_pn1, rfl, ix_de10, ix_mh1, rfl, (fun z => by cases z), (fun _ => rfl), (fun _ _ _ => ⟨rfl, rfl⟩), (fun z => by cases z)⟩
theorem ix_wY26 : ix_PY 26 := ⟨Or.inl ⟨rfl, rfl⟩, plainFor_of_name ix_pn1, rfl, ix_de7, ix_mh1, rfl, (fun z => by cases z), (fun _ => rfl), (fun _ _ _ => ⟨rfl, rfl⟩), (fun z => by cases z)⟩
theorem ix_wY27 : ix_PY 27 := ⟨Or.inl ⟨rfl, rfl⟩, plainFor_of_name ix_pn1, rfl, ix_de19, ix_mh1, rfl, (fun z => by cases z), (fun _ => rfl), (fun _ _ _ => ⟨rfl, rfl⟩), (fun z => by cases z)⟩
theorem ix_wY28 : ix_PY 28 := ⟨Or.inl ⟨rfl, rfl⟩, plainFor_of_name ix_pn1, rfl, ix_de10, ix_mh1, rfl, (fun _ => rfl), (fun z => by cases z), (fun z => by cases z), (fun z => by cases z)⟩
theorem ix_wY29 : ix_PY 29 := ⟨Or.inl ⟨rfl, rfl⟩, plainFor_of_name ix_pn1, rfl, ix_de72, ix_mh1, rfl, (fun _ => rfl), (fun z => by cases z), (fun z => by cases z), (fun z => by cases z)⟩
theorem ix_wY30 : ix_PY 30 := ⟨Or.inl ⟨rfl, rfl⟩, plainFor_of_name ix_pn1, rfl, ix_de17, ix_mh1, rfl, (fun z => by cases z), (fun _ => rfl), (fun _ _ _ => ⟨rfl, rfl⟩), (fun z => by cases z)⟩
theorem ix_wY31 : ix_PY 31 := ⟨Or.inl ⟨rfl, rfl⟩, plainFor_of_name ix_pn1, rfl, ix_de11, ix_mh1, rfl, (fun z => by cases z), (fun _ => rfl), (fun _ _ _ => ⟨rfl, rfl⟩), (fun z => by cases z)⟩
theorem ix_wY32 : ix_PY 32 := ⟨Or.inl ⟨rfl, rfl⟩, plainFor_of_name ix_pn1, rfl, ix_de9, ix_mh1, rfl, (fun z => by cases z), (fun _ => rfl), (fun _ _ _ => ⟨rfl, rfl⟩), (fun z => by cases z)⟩
theorem ix_wY33 : ix_PY 33 := ⟨Or.inl ⟨rfl, rfl⟩, plainFor_of_name ix_pn1, rfl, ix_de17, ix_mh1, rfl, (fun z => by cases z), (fun _ => rfl), (fun _ _ _ => ⟨rfl, rfl⟩), (fun z => by cases z)⟩
theorem ix_wY34 : ix_PY 34 := ⟨Or.inl ⟨rfl, rfl⟩, plainFor_of_name ix_pn1, rfl, ix_de14, ix_mh1, rfl, (fun z => by cases z), (fun _ => rfl), (fun _ _ _ => ⟨rfl, rfl⟩), (fun z => by cases z)⟩
theorem ix_wY35 : ix_PY 35 := ⟨Or.inl ⟨rfl, rfl⟩, plainFor_of_name ix_pn1, rfl, ix_de14, ix_mh1, rfl, (fun z => by cases z), (fun _ => rfl), (fun _ _ _ => ⟨rfl, rfl⟩), (fun z => by cases z)⟩
theorem ix_wY36 : ix_PY 36 := ⟨Or.inl ⟨rfl, rfl⟩, plainFor_of_name ix_pn1, rfl, ix_de14, ix_mh1, rfl, (fun z => by cases z), (fun _ => rfl), (fun _ _ _ => ⟨rfl, rfl⟩), (fun z => by cases z)⟩
theorem ix_wY37 : ix_PY 37 := ⟨Or.inl ⟨rfl, rfl⟩, plainFor_of_name ix_pn1, rfl, ix_de17, ix_mh1, rfl, (fun z => by cases z), (fun _ => rfl), (fun _ _ _ => ⟨rfl, rfl⟩), (fun z => by cases z)⟩
theorem ix_wY38 : ix_PY 38 := ⟨Or.inl ⟨rfl, rfl⟩, plainFor_of_name ix_pn1, rfl, ix_de22, ix_mh1, rfl, (fun z => by cases z), (fun _ => rfl), (fun _ _ _ => ⟨rfl, rfl⟩), (fun z => by cases z)⟩
theorem ix_wY39 : ix_PY 39 := ⟨Or.inl ⟨rfl, rfl⟩, plainFor_of_name ix_pn1, rfl, ix_de7, ix_mh1, rfl, (fun z => by cases z), (fun _ => rfl), (fun _ _ _ => ⟨rfl, rfl⟩), (fun z => by cases z)⟩
theorem ix_wY40 : ix_PY 40 := ⟨Or.inl ⟨rfl, rfl⟩, plainFor_of_name ix_pn1, rfl, ix_de21, ix_mh1, rfl, (fun z => by cases z), (fun _ => rfl), (fun _ _ _ => ⟨rfl, rfl⟩), (fun z => by cases z)⟩
theorem ix_wY41 : ix_PY 41 := ⟨Or.inl ⟨rfl, rfl⟩, plainFor_of_name ix_pn1, rfl, ix_de13, ix_mh1, rfl, (fun z => by cases z), (fun _ => rfl), (fun _ _ _ => ⟨rfl, rfl⟩), (fun z => by cases z)⟩
theorem ix_wY42 : ix_PY 42 := ⟨Or.inl ⟨rfl, rfl⟩, plainFor_of_name ix_pn1, rfl, ix_de11, ix_mh1, rfl, (fun z => by cases z), (fun _ => rfl), (fun _ _ _ => ⟨rfl, rfl⟩), (fun z => by cases z)⟩
theorem ix_wY43 : ix_PY 43 := ⟨Or.inl ⟨rfl, rfl⟩, plainFor_of_name ix_pn1, rfl, ix_de7, ix_mh1, rfl, (fun z => by cases z), (fun _ => rfl), (fun _ _ _ => ⟨rfl, rfl⟩), (fun z => by cases z)⟩
theorem ix_wY44 : ix_PY 44 := ⟨Or.inl ⟨rfl, rfl⟩, plainFor_of_name ix_pn2, rfl, ix_de10, ix_mh2, rfl, (fun _ => rfl), (fun z => by cases z), (fun z => by cases z), (fun z => by cases z)⟩
theorem ix_wY45 : ix_PY 45 := ⟨Or.inl ⟨rfl, rfl⟩, plainFor_of_name ix_pn2, rfl, ix_de7, ix_mh2, rfl, (fun _ => rfl), (fun z => by cases z), (fun z => by cases z), (fun z => by cases z)⟩
theorem ix_wY46 : ix_PY 46 := ⟨Or.inl ⟨rfl, rfl⟩, plainFor_of_name ix_pn2, rfl, ix_de7, ix_mh2, rfl, (fun _ => rfl), (fun z => by cases z), (fun z => by cases z), (fun z => by cases z)⟩
theorem ix_wY47 : ix_PY 47 := ⟨Or.inl ⟨rfl, rfl⟩, plainFor_of_name ix_pn3, rfl, ix_de2, ix_mh3, rfl, (fun z => by cases z), (fun _ => rfl), (fun _ z => by cases z), (fun _ => ⟨rfl, rfl, rfl⟩)⟩
theorem ix_wY48 : ix_PY 48 := ⟨Or.inl ⟨rfl, rfl⟩, plainFor_of_name ix_pn3, rfl, ix_de52, ix_mh3, rfl, (fun z => by cases z), (fun _ => rfl), (fun _ _ _ => ⟨rfl, rfl⟩), (fun z => by cases z)⟩
theorem ix_wY49 : ix_PY 49 := ⟨Or.inl ⟨rfl, rfl⟩, plainFor_of_name ix_pn3, rfl, ix_de1, ix_mh3, rfl, (fun z => by cases z), (fun _ => rfl), (fun _ _ _ => ⟨rfl, rfl⟩), (fun z => by cases z)⟩
theorem ix_wY50 : ix_PY 50 := ⟨Or.inl ⟨rfl, rfl⟩, plainFor_of_name ix_pn3, rfl, ix_de33, ix_mh3, rfl, (fun z => by cases z), (fun _ => rfl), (fun _ _ _ => ⟨rfl, rfl⟩), (fun z => by cases z)⟩
theorem ix_wY51 : ix_PY 51 := ⟨Or.inl ⟨rfl, rfl⟩, plainFor_of_name ix_pn3, rfl, ix_de1, ix_mh3, rfl, (fun z => by cases z), (fun _ => rfl), (fun _ _ _ => ⟨rfl, rfl⟩), (fun z => by cases z)⟩
theorem ix_wY52 : ix_PY 52 := ⟨Or.inl ⟨rfl, rfl⟩, plainFor_of_name ix_pn3, rfl, ix_de1, ix_mh3, rfl, (fun z => by cases z), (fun _ => rfl), (fun _ _ _ => ⟨rfl, rfl⟩), (fun z => by cases z)⟩
theorem ix_wY53 : ix_PY 53 := ⟨Or.inl ⟨rfl, rfl⟩, plainFor_of_name ix_pn3, rfl, ix_de2, ix_mh3, rfl, (fun z => by cases z), (fun _ => rfl), (fun _ _ _ => ⟨rfl, rfl⟩), (fun z => by cases z)⟩
theorem ix_wY54 : ix_PY 54 := ⟨Or.inl ⟨rfl, rfl⟩, plainFor_of_name ix_pn3, rfl, ix_de9, ix_mh3, rfl, (fun z => by cases z), (fun _ => rfl), (fun _ _ _ => ⟨rfl, rfl⟩), (fun z => by cases z)⟩
theorem ix_wY55 : ix_PY 55 := ⟨Or.inl ⟨rfl, rfl⟩, plainFor_of_name ix_pn3, rfl, ix_de36, ix_mh3, rfl, (fun z => by cases z), (fun _ => rfl), (fun _ _ _ => ⟨rfl, rfl⟩), (fun z => by cases z)⟩
theorem ix_wY56 : ix_PY 56 := ⟨Or.inl ⟨rfl, rfl⟩, plainFor_of_name ix_pn3, rfl, ix_de9, ix_mh3, rfl, (fun z => by cases z), (fun _ => rfl), (fun _ _ _ => ⟨rfl, rfl⟩), (fun z => by cases z)⟩
theorem ix_wY57 : ix_PY 57 := ⟨Or.inl ⟨rfl, rfl⟩, plainFor_of_name ix_pn3, rfl, ix_de2, ix_mh3, rfl, (fun z => by cases z), (fun _ => rfl), (fun _ _ _ => ⟨rfl, rfl⟩), (fun z => by cases z)⟩
theorem ix_wY58 : ix_PY 58 := ⟨Or.inl ⟨rfl, rfl⟩, plainFor_of_name ix_pn3, rfl, ix_de52, ix_mh3, rfl, (fun z => by cases z), (fun _ => rfl), (fun _ _ _ => ⟨rfl, rfl⟩), (fun z => by cases z)⟩
theorem ix_wY59 : ix_PY 59 := ⟨Or.inl ⟨rfl, rfl⟩, plainFor_of_name ix_pn3, rfl, ix_de51, ix_mh3, rfl, (fun z => by cases z), (fun _ => rfl), (fun _ _ _ => ⟨rfl, rfl⟩), (fun z => by cases z)⟩
theorem ix_wY60 : ix_PY 60 := ⟨Or.inl ⟨rfl, rfl⟩, plainFor_of_name ix_pn3, rfl, ix_de52, ix_mh3, rfl, (fun z => by cases z), (fun _ => rfl), (fun _ _ _ => ⟨rfl, rfl⟩), (fun z => by cases z)⟩
theorem ix_wY61 : ix_PY 61 := ⟨Or.inl ⟨rfl, rfl⟩, plainFor_of_name ix_pn3, rfl, ix_de57, ix_mh3, rfl, (fun z => by cases z), (fun _ => rfl), (fun _ _ _ => ⟨rfl, rfl⟩), (fun z => by cases z)⟩
theorem ix_wY62 : ix_PY 62 := ⟨Or.inl ⟨rfl, rfl⟩, plainFor_of_name ix_pn3, rfl, ix_de7, ix_mh3, rfl, (fun z => by cases z), (fun _ => rfl), (fun _ _ _ => ⟨rfl, rfl⟩), (fun z => by cases z)⟩
theorem ix_wY63 : ix_PY 63 := ⟨Or.inl ⟨rfl, rfl⟩, plainFor_of_name ix_pn3, rfl, ix_de10, ix_mh3, rfl, (fun z => by cases z), (fun _ => rfl), (fun _ _ _ => ⟨rfl, rfl⟩), (fun z => by cases z)⟩
theorem ix_wY64 : ix_PY 64 := ⟨Or.inl ⟨rfl, rfl⟩, plainFor_of_name ix_pn3, rfl, ix_de9, ix_mh3, rfl, (fun z => by cases z), (fun _ => rfl), (fun _ _ _ => ⟨rfl, rfl⟩), (fun z => by cases z)⟩
theorem ix_wY65 : ix_PY 65 := ⟨Or.inl ⟨rfl, rfl⟩, plainFor_of_name ix_pn3, rfl, ix_de3, ix_mh3, rfl, (fun z => by cases z), (fun _ => rfl), (fun _ _ _ => ⟨rfl, rfl⟩), (fun z => by cases z)⟩
theorem ix_wY66 : ix_PY 66 := ⟨Or.inl ⟨rfl, rfl⟩, plainFor_of_name ix_pn3, rfl, ix_de9, ix_mh3, rfl, (fun z => by cases z), (fun _ => rfl), (fun _ _ _ => ⟨rfl, rfl⟩), (fun z => by cases z)⟩
theorem ix_wY67 : ix_PY 67 := ⟨Or.inl ⟨rfl, rfl⟩, plainFor_of_name ix_pn3, rfl, ix_de1, ix_mh3, rfl, (fun z => by cases z), (fun _ => rfl), (fun _ _ _ => ⟨rfl, rfl⟩), (fun z => by cases z)⟩
theorem ix_wY68 : ix_PY 68 := ⟨Or.inl ⟨rfl, rfl⟩, plainFor_of_name ix_pn3, rfl, ix_de9, ix_mh3, rfl, (fun z => by cases z), (fun _ => rfl), (fun _ _ _ => ⟨rfl, rfl⟩), (fun z => by cases z)⟩
theorem ix_wY69 : ix_PY 69 := ⟨Or.inl ⟨rfl, rfl⟩, plainFor_of_name ix_pn3, rfl, ix_de2, ix_mh3, rfl, (fun z => by cases z), (fun _ => rfl), (fun _ _ _ => ⟨rfl, rfl⟩), (fun z => by cases z)⟩
theorem ix_wY70 : ix_PY 70 := ⟨Or.inl ⟨rfl, rfl⟩, plainFor_of_name ix_pn3, rfl, ix_de9, ix_mh3, rfl, (fun z => by cases z), (fun _ => rfl), (fun _ _ _ => ⟨rfl, rfl⟩), (fun z => by cases z)⟩
theorem ix_wY71 : ix_PY 71 := ⟨Or.inl ⟨rfl, rfl⟩, plainFor_of_name ix_pn4, rfl, ix_de2, ix_mh4, rfl, (fun z => by cases z), (fun _ => rfl), (fun _ z => by cases z), (fun _ => ⟨rfl, rfl, rfl⟩)⟩
theorem ix_wY72 : ix_PY 72 := ⟨Or.inl ⟨rfl, rfl⟩, plainFor_of_name ix_pn4, rfl, ix_de58, ix_mh4, rfl, (fun z => by cases z), (fun _ => rfl), (fun _ _ _ => ⟨rfl, rfl⟩), (fun z => by cases z)⟩
theorem ix_wY73 : ix_PY 73 := ⟨Or.inl ⟨rfl, rfl⟩, plainFor_of_name ix_pn4, rfl, ix_de56, ix_mh4, rfl, (fun _ => rfl), (fun z => by cases z), (fun z => by cases z), (fun z => by cases z)⟩
theorem ix_wY74 : ix_PY 74 := ⟨Or.inl ⟨rfl, rfl⟩, plainFor_of_name ix_pn4, rfl, ix_de11, ix_mh4, rfl, (fun z => by cases z), (fun _ => rfl), (fun _ _ _ => ⟨rfl, rfl⟩), (fun z => by cases z)⟩
theorem ix_wY75 : ix_PY 75 := ⟨Or.inl ⟨rfl, rfl⟩, plainFor_of_name ix_pn4, rfl, ix_de16, ix_mh4, rfl, (fun z => by cases z), (fun _ => rfl), (fun _ _ _ => ⟨rfl, rfl⟩), (fun z => by cases z)⟩
theorem ix_wY76 : ix_PY 76 := ⟨Or.inl ⟨rfl, rfl⟩, plainFor_of_name ix_pn4, rfl, ix_de12, ix_mh4, rfl, (fun z => by cases z), (fun _ => rfl), (fun _ _ _ => ⟨rfl, rfl⟩), (fun z => by cases z)⟩
theorem ix_wY77 : ix_PY 77 := ⟨Or.inl ⟨rfl, rfl⟩, plainFor_of_name ix_pn5, rfl, ix_de2, ix_mh5, rfl, (fun z => by cases z), (fun _ => rfl), (fun _ z => by cases z), (fun _ => ⟨rfl, rfl, rfl⟩)⟩
theorem ix_wY78 : ix_PY 78 := ⟨Or.inl ⟨rfl, rfl⟩, plainFor_of_name ix_pn5, rfl, ix_de3, ix_mh5, rfl, (fun z => by cases z), (fun _ => rfl), (fun _ _ _ => ⟨rfl, rfl⟩), (fun z => by cases z)⟩
theorem ix_wY79 : ix_PY 79 := ⟨Or.inl ⟨rfl, rfl⟩, plainFor_of_name ix_pn5, rfl, ix_de3, ix_mh5, rfl, (fun z => by cases z), (fun _ => rfl), (fun _ _ _ => ⟨rfl, rfl⟩), (fun z => by cases z)⟩
theorem ix_wY80 : ix_PY 80 := ⟨Or.inl ⟨rfl, rfl⟩, plainFor_of_name ix_pn5, rfl, ix_de3, ix_mh5, rfl, (fun z => by cases z), (fun _ => rfl), (fun _ _ _ => ⟨rfl, rfl⟩), (fun z => by cases z)⟩
theorem ix_wY81 : ix_PY 81 := ⟨Or.inl ⟨rfl, rfl⟩, plainFor_of_name ix_pn5, rfl, ix_de3, ix_mh5, rfl, (fun z => by cases z), (fun _ => rfl), (fun _ _ _ => ⟨rfl, rfl⟩), (fun z => by cases z)⟩
theorem ix_wY82 : ix_PY 82 := ⟨Or.inl ⟨rfl, rfl⟩, plainFor_of_name ix_pn5, rfl, ix_de3, ix_mh5, rfl, (fun z => by cases z), (fun _ => rfl), (fun _ _ _ => ⟨rfl, rfl⟩), (fun z => by cases z)⟩
theorem ix_wY83 : ix_PY 83 := ⟨Or.inl ⟨rfl, rfl⟩, plainFor_of_name ix_pn5, rfl, ix_de9, ix_mh5, rfl, (fun z => by cases z), (fun _ => rfl), (fun _ _ _ => ⟨rfl, rfl⟩), (fun z => by cases z)⟩
theorem ix_wY84 : ix_PY 84 := ⟨Or.inl ⟨rfl, rfl⟩, plainFor_of_name ix_pn5, rfl, ix_de53, ix_mh5, rfl, (fun z => by cases z), (fun _ => rfl), (fun _ _ _ => ⟨rfl, rfl⟩), (fun z => by cases z)⟩
theorem ix_wY85 : ix_PY 85 := ⟨Or.inl ⟨rfl, rfl⟩, plainFor_of_name ix_pn5, rfl, ix_de39, ix_mh5, rfl, (fun z => by cases z), (fun _ => rfl), (fun _ _ _ => ⟨rfl, rfl⟩), (fun z => by cases z)⟩
theorem ix_wY86 : ix_PY 86 := ⟨Or.inl ⟨rfl, rfl⟩, plainFor_of_name ix_pn5, rfl, ix_de2, ix_mh5, rfl, (fun z => by cases z), (fun _ => rfl), (fun _ _ _ => ⟨rfl, rfl⟩), (fun z => by cases z)⟩
theorem ix_wY87 : ix_PY 87 := ⟨Or.inl ⟨rfl, rfl⟩, plainFor_of_name ix_pn6, rfl, ix_de2, ix_mh6, rfl, (fun z => by cases z), (fun _ => rfl), (fun _ z => by cases z), (fun _ => ⟨rfl, rfl, rfl⟩)⟩
theorem ix_wY88 : ix_PY 88 := ⟨Or.inl ⟨rfl, rfl⟩, plainFor_of_name ix_pn6, rfl, ix_de39, ix_mh6, rfl, (fun z => by cases z), (fun _ => rfl), (fun _ _ _ => ⟨rfl, rfl⟩), (fun z => by cases z)⟩
theorem ix_wY89 : ix_PY 89 := ⟨Or.inl ⟨rfl, rfl⟩, plainFor_of_name ix_pn6, rfl, ix_de40, ix_mh6, rfl, (fun _ => rfl), (fun z => by cases z), (fun z => by cases z), (fun z => by cases z)⟩
theorem ix_wY90 : ix_PY 90 := ⟨Or.inl ⟨rfl, rfl⟩, plainFor_of_name ix_pn6, rfl, ix_de11, ix_mh6, rfl, (fun _ => rfl), (fun z => by cases z), (fun z => by cases z), (fun z => by cases z)⟩
theorem ix_wY91 : ix_PY 91 := ⟨Or.inl ⟨rfl, rfl⟩, plainFor_of_name ix_pn6, rfl, ix_de18, ix_mh6, rfl, (fun z => by cases z), (fun _ => rfl), (fun _ _ _ => ⟨rfl, rfl⟩), (fun z => by cases z)⟩
theorem ix_wY92 : ix_PY 92 := ⟨Or.inl ⟨rfl, rfl⟩, plainFor_of_name ix_pn6, rfl, ix_de27, ix_mh6, rfl, (fun z => by cases z), (fun _ => rfl), (fun _ _ _ => ⟨rfl, rfl⟩), (fun z => by cases z)⟩
theorem ix_wY93 : ix_PY 93 := ⟨Or.inl ⟨rfl, rfl⟩, plainFor_of_name ix_pn6, rfl, ix_de27, ix_mh6, rfl, (fun z => by cases z), (fun _ => rfl), (fun _ _ _ => ⟨rfl, rfl⟩), (fun z => by cases z)⟩
theorem ix_wY94 : ix_PY 94 := ⟨Or.inl ⟨rfl, rfl⟩, plainFor_of_name ix_pn6, rfl, ix_de15, ix_mh6, rfl, (fun z => by cases z), (fun _ => rfl), (fun _ _ _ => ⟨rfl, rfl⟩), (fun z => by cases z)⟩
theorem ix_wY95 : ix_PY 95 := ⟨Or.inl ⟨rfl, rfl⟩, plainFor_of_name ix_pn7, rfl, ix_de2, ix_mh7, rfl, (fun z => by cases z), (fun _ => rfl), (fun _ z => by cases z), (fun _ => ⟨rfl, rfl, rfl⟩)⟩
theorem ix_wY96 : ix_PY 96 := ⟨Or.inl ⟨rfl, rfl⟩, plainFor_of_name ix_pn7, rfl, ix_de39, ix_mh7, rfl, (fun z => by cases z), (fun _ => rfl), (fun _ _ _ => ⟨rfl, rfl⟩), (fun z => by cases z)⟩
theorem ix_wY97 : ix_PY 97 := ⟨Or.inl ⟨rfl, rfl⟩, plainFor_of_name ix_pn7, rfl, ix_de72, ix_mh7, rfl, (fun z => by cases z), (fun _ => rfl), (fun _ _ _ => ⟨rfl, rfl⟩), (fun z => by cases z)⟩
theorem ix_wY98 : ix_PY 98 := ⟨Or.inl ⟨rfl, rfl⟩, plainFor_of_name ix_pn7, rfl, ix_de60, ix_mh7, rfl, (fun z => by cases z), (fun _ => rfl), (fun _ _ _ => ⟨rfl, rfl⟩), (fun z => by cases z)⟩
theorem ix_wY99 : ix_PY 99 := ⟨Or.inl ⟨rfl, rfl⟩, plainFor_of_name ix_pn7, rfl, ix_de9, ix_mh7, rfl, (fun z => by cases z), (fun _ => rfl), (fun _ _ _ => ⟨rfl, rfl⟩), (fun z => by cases z)⟩
theorem ix_wY100 : ix_PY 100 := ⟨Or.inl ⟨rfl, rfl⟩, plainFor_of_name ix_pn7, rfl, ix_de2, ix_mh7, rfl, (fun z => by cases z), (fun _ => rfl), (fun _ _ _ => ⟨rfl, rfl⟩), (fun z => by cases z)⟩
theorem ix_wY101 : ix_PY 101 := ⟨Or.inl ⟨rfl, rfl⟩, plainFor_of_name ix_pn8, rfl, ix_de55, ix_mh8, rfl, (fun _ => rfl), (fun z => by cases z), (fun z => by cases z), (fun z => by cases z)⟩
theorem ix_wY102 : ix_PY 102 := ⟨Or.inl ⟨rfl, rfl⟩, plainFor_of_name ix_pn8, rfl, ix_de32, ix_mh8, rfl, (fun _ => rfl), (fun z => by cases z), (fun z => by cases z), (fun z => by cases z)⟩
theorem ix_wY103 : ix_PY 103 := ⟨Or.inl ⟨rfl, rfl⟩, plainFor_of_name ix_pn8, rfl, ix_de61, ix_mh8, rfl, (fun _ => rfl), (fun z => by cases z), (fun z => by cases z), (fun z => by cases z)⟩
theorem ix_wY104 : ix_PY 104 := ⟨Or.inl ⟨rfl, rfl⟩, plainFor_of_name ix_pn8, rfl, ix_de61, ix_mh8, rfl, (fun _ => rfl), (fun z => by cases z), (fun z => by cases z), (fun z => by cases z)⟩
theorem ix_wY105 : ix_PY 105 := ⟨Or.inl ⟨rfl, rfl⟩, plainFor_of_name ix_pn8, rfl, ix_de61, ix_mh8, rfl, (fun _ => rfl), (fun z => by cases z), (fun z => by cases z), (fun z => by cases z)⟩
theorem ix_wY106 : ix_PY 106 := ⟨Or.inl ⟨rfl, rfl⟩, plainFor_of_name ix_pn8, rfl, ix_de37, ix_mh8, rfl, (fun _ => rfl), (fun z => by cases z), (fun z => by cases z), (fun z => by cases z)⟩
theorem ix_wY107 : ix_PY 107 := ⟨Or.inl ⟨rfl, rfl⟩, plainFor_of_name ix_pn9, rfl, ix_de2, ix_mh9, rfl, (fun z => by cases z), (fun _ => rfl), (fun _ z => by cases z), (fun _ => ⟨rfl, rfl, rfl⟩)⟩
theorem ix_wY108 : ix_PY 108 := ⟨Or.inl ⟨rfl, rfl⟩, plainFor_of_name ix_pn9, rfl, ix_de43, ix_mh9, rfl, (fun z => by cases z), (fun _ => rfl), (fun _ _ _ => ⟨rfl, rfl⟩), (fun z => by cases z)⟩
theorem ix_wY109 : ix_PY 109 := ⟨Or.inl ⟨rfl, rfl⟩, plainFor_of_name ix_pn9, rfl, ix_de43, ix_mh9, rfl, (fun z => by cases z), (fun _ => rfl), (fun _ _ _ => ⟨rfl, rfl⟩), (fun z => by cases z)⟩
theorem ix_wY110 : ix_PY 110 := ⟨Or.inl ⟨rfl, rfl⟩, plainFor_of_name ix_pn9, rfl, ix_de45, ix_mh9, rfl, (fun z => by cases z), (fun _ => rfl), (fun _ _ _ => ⟨rfl, rfl⟩), (fun z => by cases z)⟩
theorem ix_wY111 : ix_PY 111 := ⟨Or.inl ⟨rfl, rfl⟩, plainFor_of_name ix_pn9, rfl, ix_de43, ix_mh9, rfl, (fun z => by cases z), (fun _ => rfl), (fun _ _ _ => ⟨rfl, rfl⟩), (fun z => by cases z)⟩
theorem ix_wY112 : ix_PY 112 := ⟨Or.inl ⟨rfl, rfl⟩, plainFor_of_name ix_pn10, rfl, ix_de2, ix_mh10, rfl, (fun z => by cases z), (fun _ => rfl), (fun _ z => by cases z), (fun _ => ⟨rfl, rfl, rfl⟩)⟩
theorem ix_wY113 : ix_PY 113 := ⟨Or.inl ⟨rfl, rfl⟩, plainFor_of_name ix_pn10, rfl, ix_de30, ix_mh10, rfl, (fun z => by cases z), (fun _ => rfl), (fun _ _ _ => ⟨rfl, rfl⟩), (fun z => by cases z)⟩
theorem ix_wY114 : ix_PY 114 := ⟨Or.inl ⟨rfl, rfl⟩, plainFor_of_name ix_pn10, rfl, ix_de43, ix_mh10, rfl, (fun z => by cases z), (fun _ => rfl), (fun _ _ _ => ⟨rfl, rfl⟩), (fun z => by cases z)⟩
theorem ix_wY115 : ix_PY 115 := ⟨Or.inl ⟨rfl, rfl⟩, plainFor_of_name ix_pn10, rfl, ix_de47, ix_mh10, rfl, (fun z => by cases z), (fun _ => rfl), (fun _ _ _ => ⟨rfl, rfl⟩), (fun z => by cases z)⟩
theorem ix_wY116 : ix_PY 116 := ⟨Or.inl ⟨rfl, rfl⟩, plainFor_of_name ix_pn10, rfl, ix_de49, ix_mh10, rfl, (fun z => by cases z), (fun _ => rfl), (fun _ _ _ => ⟨rfl, rfl⟩), (fun z => by cases z)⟩
theorem ix_wY117 : ix_PY 117 := ⟨Or.inl ⟨rfl, rfl⟩, plainFor_of_name ix_pn10, rfl, ix_de1, ix_mh10, rfl, (fun z => by cases z), (fun _ => rfl), (fun _ _ _ => ⟨rfl, rfl⟩), (fun z => by cases z)⟩
theorem ix_wY118 : ix_PY 118 := ⟨Or.inl ⟨rfl, rfl⟩, plainFor_of_name ix_pn10, rfl, ix_de71, ix_mh10, rfl, (fun z => by cases z), (fun _ => rfl), (fun _ _ _ => ⟨rfl, rfl⟩), (fun z => by cases z)⟩
theorem ix_wY119 : ix_PY 119 := ⟨Or.inl ⟨rfl, rfl⟩, plainFor_of_name ix_pn10, rfl, ix_de9, ix_mh10, rfl, (fun z => by cases z), (fun _ => rfl), (fun _ _ _ => ⟨rfl, rfl⟩), (fun z => by cases z)⟩
theorem ix_wY120 : ix_PY 120 := ⟨Or.inl ⟨rfl, rfl⟩, plainFor_of_name ix_pn10, rfl, ix_de62, ix_mh10, rfl, (fun z => by cases z), (fun _ => rfl), (fun _ _ _ => ⟨rfl, rfl⟩), (fun z => by cases z)⟩
theorem ix_wY121 : ix_PY 121 := ⟨Or.inl ⟨rfl, rfl⟩, plainFor_of_name ix_pn10, rfl, ix_de9, ix_mh10, rfl, (fun z => by cases z), (fun _ => rfl), (fun _ _ _ => ⟨rfl, rfl⟩), (fun z => by cases z)⟩
theorem ix_wY122 : ix_PY 122 := ⟨Or.inl ⟨rfl, rfl⟩, plainFor_of_name ix_pn10, rfl, ix_de43, ix_mh10, rfl, (fun z => by cases z), (fun _ => rfl), (fun _ _ _ => ⟨rfl, rfl⟩), (fun z => by cases z)⟩
theorem ix_wY123 : ix_PY 123 := ⟨Or.inl ⟨rfl, rfl⟩, plainFor_of_name ix_pn10, rfl, ix_de44, ix_mh10, rfl, (fun z => by cases z), (fun _ => rfl), (fun _ _ _ => ⟨rfl, rfl⟩), (fun z => by cases z)⟩
theorem ix_wY124 : ix_PY 124 := ⟨Or.inl ⟨rfl, rfl⟩, plainFor_of_name ix_pn10, rfl, ix_de43, ix_mh10, rfl, (fun z => by cases z), (fun _ => rfl), (fun _ _ _ => ⟨rfl, rfl⟩), (fun z => by cases z)⟩
theorem ix_wY125 : ix_PY 125 := ⟨Or.inl ⟨rfl, rfl⟩, plainFor_of_name ix_pn10, rfl, ix_de39, ix_mh10, rfl, (fun z => by cases z), (fun _ => rfl), (fun _ _ _ => ⟨rfl, rfl⟩), (fun z => by cases z)⟩
theorem ix_wY126 : ix_PY 126 := ⟨Or.inl ⟨rfl, rfl⟩, plainFor_of_name ix_pn10, rfl, ix_de43, ix_mh10, rfl, (fun z => by cases z), (fun _ => rfl), (fun _ _ _ => ⟨rfl, rfl⟩), (fun z => by cases z)⟩
theorem ix_wY127 : ix_PY 127 := ⟨Or.inl ⟨rfl, rfl⟩, plainFor_of_name ix_pn10, rfl, ix_de9, ix_mh10, rfl, (fun z => by cases z), (fun _ => rfl), (fun _ _ _ => ⟨rfl, rfl⟩), (fun z => by cases z)⟩
theorem ix_wY128 : ix_PY 128 := ⟨Or.inl ⟨rfl, rfl⟩, plainFor_of_name ix_pn10, rfl, ix_de9, ix_mh10, rfl, (fun z => by cases z), (fun _ => rfl), (fun _ _ _ => ⟨rfl, rfl⟩), (fun z => by cases z)⟩
theorem ix_wY129 : ix_PY 129 := ⟨Or.inl ⟨rfl, rfl⟩, plainFor_of_name ix_pn10, rfl, ix_de46, ix_mh10, rfl, (fun z => by cases z), (fun _ => rfl), (fun _ _ _ => ⟨rfl, rfl⟩), (fun z => by cases z)⟩
theorem ix_wY130 : ix_PY 130 := ⟨Or.inl ⟨rfl, rfl⟩, plainFor_of_name ix_pn10, rfl, ix_de29, ix_mh10, rfl, (fun z => by cases z), (fun _ => rfl), (fun _ _ _ => ⟨rfl, rfl⟩), (fun z => by cases z)⟩
theorem ix_wY131 : ix_PY 131 := ⟨Or.inl ⟨rfl, rfl⟩, plainFor_of_name ix_pn10, rfl, ix_de48, ix_mh10, rfl, (fun z => by cases z), (fun _ => rfl), (fun _ _ _ => ⟨rfl, rfl⟩), (fun z => by cases z)⟩
theorem ix_wY132 : ix_PY 132 := ⟨Or.inl ⟨rfl, rfl⟩, plainFor_of_name ix_pn10, rfl, ix_de28, ix_mh10, rfl, (fun z => by cases z), (fun _ => rfl), (fun _ _ _ => ⟨rfl, rfl⟩), (fun z => by cases z)⟩
theorem ix_wY133 : ix_PY 133 := ⟨Or.inl ⟨rfl, rfl⟩, plainFor_of_name ix_pn10, rfl, ix_de38, ix_mh10, rfl, (fun z => by cases z), (fun _ => rfl), (fun _ _ _ => ⟨rfl, rfl⟩), (fun z => by cases z)⟩
theorem ix_wY134 : ix_PY 134 := ⟨Or.inl ⟨rfl, rfl⟩, plainFor_of_name ix_pn10, rfl, ix_de2, ix_mh10, rfl, (fun z => by cases z), (fun _ => rfl), (fun _ _ _ => ⟨rfl, rfl⟩), (fun z => by cases z)⟩
theorem ix_wY135 : ix_PY 135 := ⟨Or.inl ⟨rfl, rfl⟩, plainFor_of_name ix_pn10, rfl, ix_de10, ix_mh10, rfl, (fun z => by cases z), (fun _ => rfl), (fun _ _ _ => ⟨rfl, rfl⟩), (fun z => by cases z)⟩
theorem ix_wY136 : ix_PY 136 := ⟨Or.inl ⟨rfl, rfl⟩, plainFor_of_name ix_pn10, rfl, ix_de50, ix_mh10, rfl, (fun z => by cases z), (fun _ => rfl), (fun _ _ _ => ⟨rfl, rfl⟩), (fun z => by cases z)⟩
theorem ix_wY137 : ix_PY 137 := ⟨Or.inl ⟨rfl, rfl⟩, plainFor_of_name ix_pn10, rfl, ix_de9, ix_mh10, rfl, (fun z => by cases z), (fun _ => rfl), (fun _ _ _ => ⟨rfl, rfl⟩), (fun z => by cases z)⟩
theorem ix_wY138 : ix_PY 138 := ⟨Or.inl ⟨rfl, rfl⟩, plainFor_of_name ix_pn10, rfl, ix_de2, ix_mh10, rfl, (fun z => by cases z), (fun _ => rfl), (fun _ _ _ => ⟨rfl, rfl⟩), (fun z => by cases z)⟩
theorem ix_wY139 : ix_PY 139 := ⟨Or.inl ⟨rfl, rfl⟩, plainFor_of_name ix_pn10, rfl, ix_de41, ix_mh10, rfl, (fun z => by cases z), (fun _ => rfl), (fun _ _ _ => ⟨rfl, rfl⟩), (fun z => by cases z)⟩
theorem ix_wY140 : ix_PY 140 := ⟨Or.inl ⟨rfl, rfl⟩, plainFor_of_name ix_pn10, rfl, ix_de41, ix_mh10, rfl, (fun z => by cases z), (fun _ => rfl), (fun _ _ _ => ⟨rfl, rfl⟩), (fun z => by cases z)⟩
theorem ix_wY141 : ix_PY 141 := ⟨Or.inl ⟨rfl, rfl⟩, plainFor_of_name ix_pn10, rfl, ix_de17, ix_mh10, rfl, (fun z => by cases z), (fun _ => rfl), (fun _ _ _ => ⟨rfl, rfl⟩), (fun z => by cases z)⟩
theorem ix_wY142 : ix_PY 142 := ⟨Or.inl ⟨rfl, rfl⟩, plainFor_of_name ix_pn10, rfl, ix_de42, ix_mh10, rfl, (fun z => by cases z), (fun _ => rfl), (fun _ _ _ => ⟨rfl, rfl⟩), (fun z => by cases z)⟩
theorem ix_wY143 : ix_PY 143 := ⟨Or.inl ⟨rfl, rfl⟩, plainFor_of_name ix_pn10, rfl, ix_de59, ix_mh10, rfl, (fun z => by cases z), (fun _ => rfl), (fun _ _ _ => ⟨rfl, rfl⟩), (fun z => by cases z)⟩
theorem ix_wY144 : ix_PY 144 := ⟨Or.inl ⟨rfl, rfl⟩, plainFor_of_name ix_pn11, rfl, ix_de2, ix_mh11, rfl, (fun z => by cases z), (fun _ => rfl), (fun _ z => by cases z), (fun _ => ⟨rfl, rfl, rfl⟩)⟩
theorem ix_wY145 : ix_PY 145 := ⟨Or.inl ⟨rfl, rfl⟩, plainFor_of_name ix_pn11, rfl, ix_de10, ix_mh11, rfl, (fun z => by cases z), (fun _ => rfl), (fun _ _ _ => ⟨rfl, rfl⟩), (fun z => by cases z)⟩
theorem ix_wY146 : ix_PY 146 := ⟨Or.inl ⟨rfl, rfl⟩, plainFor_of_name ix_pn11, rfl, ix_de3, ix_mh11, rfl, (fun z => by cases z), (fun _ => rfl), (fun _ _ _ => ⟨rfl, rfl⟩), (fun z => by cases z)⟩
theorem ix_wY147 : ix_PY 147 := ⟨Or.inl ⟨rfl, rfl⟩, plainFor_of_name ix_pn11, rfl, ix_de3, ix_mh11, rfl, (fun z => by cases z), (fun _ => rfl), (fun _ _ _ => ⟨rfl, rfl⟩), (fun z => by cases z)⟩
theorem ix_wY148 : ix_PY 148 := ⟨Or.inl ⟨rfl, rfl⟩, plainFor_of_name ix_pn11, rfl, ix_de5, ix_mh11, rfl, (fun z => by cases z), (fun _ => rfl), (fun _ _ _ => ⟨rfl, rfl⟩), (fun z => by cases z)⟩
theorem ix_wY149 : ix_PY 149 := ⟨Or.inl ⟨rfl, rfl⟩, plainFor_of_name ix_pn11, rfl, ix_de70, ix_mh11, rfl, (fun z => by cases z), (fun _ => rfl), (fun _ _ _ => ⟨rfl, rfl⟩), (fun z => by cases z)⟩
theorem ix_wY150 : ix_PY 150 := ⟨Or.inl ⟨rfl, rfl⟩, plainFor_of_name ix_pn11, rfl, ix_de1, ix_mh11, rfl, (fun z => by cases z), (fun _ => rfl), (fun _ _ _ => ⟨rfl, rfl⟩), (fun z => by cases z)⟩
theorem ix_wY151 : ix_PY 151 := ⟨Or.inl ⟨rfl, rfl⟩, plainFor_of_name ix_pn11, rfl, ix_de5, ix_mh11, rfl, (fun _ => rfl), (fun z => by cases z), (fun z => by cases z), (fun z => by cases z)⟩
theorem ix_wY152 : ix_PY 152 := ⟨Or.inl ⟨rfl, rfl⟩, plainFor_of_name ix_pn11, rfl, ix_de3, ix_mh11, rfl, (fun z => by cases z), (fun _ => rfl), (fun _ _ _ => ⟨rfl, rfl⟩), (fun z => by cases z)⟩
theorem ix_wY153 : ix_PY 153 := ⟨Or.inl ⟨rfl, rfl⟩, plainFor_of_name ix_pn11, rfl, ix_de3, ix_mh11, rfl, (fun z => by cases z), (fun _ => rfl), (fun _ _ _ => ⟨rfl, rfl⟩), (fun z => by cases z)⟩
theorem ix_wY154 : ix_PY 154 := ⟨Or.inl ⟨rfl, rfl⟩, plainFor_of_name ix_pn11, rfl, ix_de2, ix_mh11, rfl, (fun z => by cases z), (fun _ => rfl), (fun _ _ _ => ⟨rfl, rfl⟩), (fun z => by cases z)⟩
theorem ix_wY155 : ix_PY 155 := ⟨Or.inl ⟨rfl, rfl⟩, plainFor_of_name ix_pn12, rfl, ix_de2, ix_mh12, rfl, (fun z => by cases z), (fun _ => rfl), (fun _ z => by cases z), (fun _ => ⟨rfl, rfl, rfl⟩)⟩
theorem ix_wY156 : ix_PY 156 := ⟨Or.inl ⟨rfl, rfl⟩, plainFor_of_name ix_pn12, rfl, ix_de39, ix_mh12, rfl, (fun z => by cases z), (fun _ => rfl), (fun _ _ _ => ⟨rfl, rfl⟩), (fun z => by cases z)⟩
theorem ix_wY157 : ix_PY 157 := ⟨Or.inl ⟨rfl, rfl⟩, plainFor_of_name ix_pn12, rfl, ix_de4, ix_mh12, rfl, (fun z => by cases z), (fun _ => rfl), (fun _ _ _ => ⟨rfl, rfl⟩), (fun z => by cases z)⟩
theorem ix_wY158 : ix_PY 158 := ⟨Or.inl ⟨rfl, rfl⟩, plainFor_of_name ix_pn12, rfl, ix_de69, ix_mh12, rfl, (fun z => by cases z), (fun _ => rfl), (fun _ _ _ => ⟨rfl, rfl⟩), (fun z => by cases z)⟩
theorem ix_wY159 : ix_PY 159 := ⟨Or.inl ⟨rfl, rfl⟩, plainFor_of_name ix_pn12, rfl, ix_de54, ix_mh12, rfl, (fun z => by cases z), (fun _ => rfl), (fun _ _ _ => ⟨rfl, rfl⟩), (fun z => by cases z)⟩
theorem ix_wY160 : ix_PY 160 := ⟨Or.inl ⟨rfl, rfl⟩, plainFor_of_name ix_pn12, rfl, ix_de39, ix_mh12, rfl, (fun z => by cases z), (fun _ => rfl), (fun _ _ _ => ⟨rfl, rfl⟩), (fun z => by cases z)⟩
theorem ix_wY161 : ix_PY 161 := ⟨Or.inl ⟨rfl, rfl⟩, plainFor_of_name ix_pn12, rfl, ix_de54, ix_mh12, rfl, (fun z => by cases z), (fun _ => rfl), (fun _ _ _ => ⟨rfl, rfl⟩), (fun z => by cases z)⟩
theorem ix_wY162 : ix_PY 162 := ⟨Or.inl ⟨rfl, rfl⟩, plainFor_of_name ix_pn12, rfl, ix_de9, ix_mh12, rfl, (fun z => by cases z), (fun _ => rfl), (fun _ _ _ => ⟨rfl, rfl⟩), (fun z => by cases z)⟩
theorem ix_wY163 : ix_PY 163 := ⟨Or.inl ⟨rfl, rfl⟩, plainFor_of_name ix_pn13, rfl, ix_de2, ix_mh13, rfl, (fun z => by cases z), (fun _ => rfl), (fun _ z => by cases z), (fun _ => ⟨rfl, rfl, rfl⟩)⟩
theorem ix_wY164 : ix_PY 164 := ⟨Or.inl ⟨rfl, rfl⟩, plainFor_of_name ix_pn13, rfl, ix_de1, ix_mh13, rfl, (fun z => by cases z), (fun _ => rfl), (fun _ _ _ => ⟨rfl, rfl⟩), (fun z => by cases z)⟩
theorem ix_wY165 : ix_PY 165 := ⟨Or.inl ⟨rfl, rfl⟩, plainFor_of_name ix_pn13, rfl, ix_de19, ix_mh13, rfl, (fun z => by cases z), (fun _ => rfl), (fun _ _ _ => ⟨rfl, rfl⟩), (fun z => by cases z)⟩
theorem ix_wY166 : ix_PY 166 := ⟨Or.inl ⟨rfl, rfl⟩, plainFor_of_name ix_pn13, rfl, ix_de10, ix_mh13, rfl, (fun _ => rfl), (fun z => by cases z), (fun z => by cases z), (fun z => by cases z)⟩
theorem ix_wY167 : ix_PY 167 := ⟨Or.inl ⟨rfl, rfl⟩, plainFor_of_name ix_pn13, rfl, ix_de10, ix_mh13, rfl, (fun _ => rfl), (fun z => by cases z), (fun z => by cases z), (fun z => by cases z)⟩
theorem ix_wY168 : ix_PY 168 := ⟨Or.inl ⟨rfl, rfl⟩, plainFor_of_name ix_pn13, rfl, ix_de73, ix_mh13, rfl, (fun z => by cases z), (fun _ => rfl), (fun _ _ _ => ⟨rfl, rfl⟩), (fun z => by cases z)⟩
theorem ix_wY169 : ix_PY 169 := ⟨Or.inl ⟨rfl, rfl⟩, plainFor_of_name ix_pn13, rfl, ix_de7, ix_mh13, rfl, (fun _ => rfl), (fun z => by cases z), (fun z => by cases z), (fun z => by cases z)⟩
theorem ix_wY170 : ix_PY 170 := ⟨Or.inl ⟨rfl, rfl⟩, plainFor_of_name ix_pn13, rfl, ix_de12, ix_mh13, rfl, (fun z => by cases z), (fun _ => rfl), (fun _ _ _ => ⟨rfl, rfl⟩), (fun z => by cases z)⟩
theorem ix_wY171 : ix_PY 171 := ⟨Or.inl ⟨rfl, rfl⟩, plainFor_of_name ix_pn13, rfl, ix_de7, ix_mh13, rfl, (fun _ => rfl), (fun z => by cases z), (fun z => by cases z), (fun z => by cases z)⟩
theorem ix_wY172 : ix_PY 172 := ⟨Or.inl ⟨rfl, rfl⟩, plainFor_of_name ix_pn13, rfl, ix_de10, ix_mh13, rfl, (fun z => by cases z), (fun _ => rfl), (fun _ _ _ => ⟨rfl, rfl⟩), (fun z => by cases z)⟩
theorem ix_wY173 : ix_PY 173 := ⟨Or.inl ⟨rfl, rfl⟩, plainFor_of_name ix_pn13, rfl, ix_de11, ix_mh13, rfl, (fun z => by cases z), (fun _ => rfl), (fun _ _ _ => ⟨rfl, rfl⟩), (fun z => by cases z)⟩
theorem ix_wY174 : ix_PY 174 := ⟨Or.inl ⟨rfl, rfl⟩, plainFor_of_name ix_pn13, rfl, ix_de15, ix_mh13, rfl, (fun z => by cases z), (fun _ => rfl), (fun _ _ _ => ⟨rfl, rfl⟩), (fun z => by cases z)⟩
theorem ix_wY175 : ix_PY 175 := ⟨Or.inl ⟨rfl, rfl⟩, plainFor_of_name ix_pn13, rfl, ix_de9, ix_mh13, rfl, (fun z => by cases z), (fun _ => rfl), (fun _ _ _ => ⟨rfl, rfl⟩), (fun z => by cases z)⟩
theorem ix_wY176 : ix_PY 176 := ⟨Or.inl ⟨rfl, rfl⟩, plainFor_of_name ix_pn13, rfl, ix_de7, ix_mh13, rfl, (fun _ => rfl), (fun z => by cases z), (fun z => by cases z), (fun z => by cases z)⟩
theorem ix_wY177 : ix_PY 177 := ⟨Or.inl ⟨rfl, rfl⟩, plainFor_of_name ix_pn13, rfl, ix_de12, ix_mh13, rfl, (fun z => by cases z), (fun _ => rfl), (fun _ _ _ => ⟨rfl, rfl⟩), (fun z => by cases z)⟩
theorem ix_wY178 : ix_PY 178 := ⟨Or.inl ⟨rfl, rfl⟩, plainFor_of_name ix_pn13, rfl, ix_de7, ix_mh13, rfl, (fun z => by cases z), (fun _ => rfl), (fun _ _ _ => ⟨rfl, rfl⟩), (fun z => by cases z)⟩
theorem ix_wY179 : ix_PY 179 := ⟨Or.inl ⟨rfl, rfl⟩, plainFor_of_name ix_pn13, rfl, ix_de7, ix_mh13, rfl, (fun _ => rfl), (fun z => by cases z), (fun z => by cases z), (fun z => by cases z)⟩
theorem ix_wY180 : ix_PY 180 := ⟨Or.inl ⟨rfl, rfl⟩, plainFor_of_name ix_pn13, rfl, ix_de11, ix_mh13, rfl, (fun z => by cases z), (fun _ => rfl), (fun _ _ _ => ⟨rfl, rfl⟩), (fun z => by cases z)⟩
theorem ix_wY181 : ix_PY 181 := ⟨Or.inl ⟨rfl, rfl⟩, plainFor_of_name ix_pn13, rfl, ix_de10, ix_mh13, rfl, (fun _ => rfl), (fun z => by cases z), (fun z => by cases z), (fun z => by cases z)⟩
theorem ix_wY182 : ix_PY 182 := ⟨Or.inl ⟨rfl, rfl⟩, plainFor_of_name ix_pn13, rfl, ix_de9, ix_mh13, rfl, (fun z => by cases z), (fun _ => rfl), (fun _ _ _ => ⟨rfl, rfl⟩), (fun z => by cases z)⟩
theorem ix_wY183 : ix_PY 183 := ⟨Or.inl ⟨rfl, rfl⟩, plainFor_of_name ix_pn13, rfl, ix_de9, ix_mh13, rfl, (fun z => by cases z), (fun _ => rfl), (fun _ _ _ => ⟨rfl, rfl⟩), (fun z => by cases z)⟩
theorem ix_wY184 : ix_PY 184 := ⟨Or.inl ⟨rfl, rfl⟩, plainFor_of_name ix_pn13, rfl, ix_de10, ix_mh13, rfl, (fun z => by cases z), (fun _ => rfl), (fun _ _ _ => ⟨rfl, rfl⟩), (fun z => by cases z)⟩
theorem ix_wY185 : ix_PY 185 := ⟨Or.inl ⟨rfl, rfl⟩, plainFor_of_name ix_pn13, rfl, ix_de15, ix_mh13, rfl, (fun z => by cases z), (fun _ => rfl), (fun _ _ _ => ⟨rfl, rfl⟩), (fun z => by cases z)⟩
theorem ix_wY186 : ix_PY 186 := ⟨Or.inl ⟨rfl, rfl⟩, plainFor_of_name ix_pn13, rfl, ix_de7, ix_mh13, rfl, (fun z => by cases z), (fun _ => rfl), (fun _ _ _ => ⟨rfl, rfl⟩), (fun z => by cases z)⟩
theorem ix_wY187 : ix_PY 187 := ⟨Or.inl ⟨rfl, rfl⟩, plainFor_of_name ix_pn13, rfl, ix_de10, ix_mh13, rfl, (fun z => by cases z), (fun _ => rfl), (fun _ _ _ => ⟨rfl, rfl⟩), (fun z => by cases z)⟩
theorem ix_wY188 : ix_PY 188 := ⟨Or.inl ⟨rfl, rfl⟩, plainFor_of_name ix_pn13, rfl, ix_de1, ix_mh13, rfl, (fun z => by cases z), (fun _ => rfl), (fun _ _ _ => ⟨rfl, rfl⟩), (fun z => by cases z)⟩
theorem ix_wY189 : ix_PY 189 := ⟨Or.inl ⟨rfl, rfl⟩, plainFor_of_name ix_pn13, rfl, ix_de7, ix_mh13, rfl, (fun z => by cases z), (fun _ => rfl), (fun _ _ _ => ⟨rfl, rfl⟩), (fun z => by cases z)⟩
theorem ix_wY190 : ix_PY 190 := ⟨Or.inl ⟨rfl, rfl⟩, plainFor_of_name ix_pn13, rfl, ix_de9, ix_mh13, rfl, (fun z => by cases z), (fun _ => rfl), (fun _ _ _ => ⟨rfl, rfl⟩), (fun z => by cases z)⟩
theorem ix_wY191 : ix_PY 191 := ⟨Or.inl ⟨rfl, rfl⟩, plainFor_of_name ix_pn13, rfl, ix_de17, ix_mh13, rfl, (fun z => by cases z), (fun _ => rfl), (fun _ _ _ => ⟨rfl, rfl⟩), (fun z => by cases z)⟩
theorem ix_wY192 : ix_PY 192 := ⟨Or.inl ⟨rfl, rfl⟩, plainFor_of_name ix_pn13, rfl, ix_de12, ix_mh13, rfl, (fun z => by cases z), (fun _ => rfl), (fun _ _ _ => ⟨rfl, rfl⟩), (fun z => by cases z)⟩
theorem ix_wY193 : ix_PY 193 := ⟨Or.inl ⟨rfl, rfl⟩, plainFor_of_name ix_pn13, rfl, ix_de15, ix_mh13, rfl, (fun z => by cases z), (fun _ => rfl), (fun _ _ _ => ⟨rfl, rfl⟩), (fun z => by cases z)⟩
theorem ix_wY194 : ix_PY 194 := ⟨Or.inl ⟨rfl, rfl⟩, plainFor_of_name ix_pn13, rfl, ix_de10, ix_mh13, rfl, (fun z => by cases z), (fun _ => rfl), (fun _ _ _ => ⟨rfl, rfl⟩), (fun z => by cases z)⟩
theorem ix_wY195 : ix_PY 195 := ⟨Or.inl ⟨rfl, rfl⟩, plainFor_of_name ix_pn13, rfl, ix_de16, ix_mh13, rfl, (fun z => by cases z), (fun _ => rfl), (fun _ _ _ => ⟨rfl, rfl⟩), (fun z => by cases z)⟩
theorem ix_wY196 : ix_PY 196 := ⟨Or.inl ⟨rfl, rfl⟩, plainFor_of_name ix_pn13, rfl, ix_de11, ix_mh13, rfl, (fun z => by cases z), (fun _ => rfl), (fun _ _ _ => ⟨rfl, rfl⟩), (fun z => by cases z)⟩
theorem ix_wY197 : ix_PY 197 := ⟨Or.inl ⟨rfl, rfl⟩, plainFor_of_name ix_pn13, rfl, ix_de10, ix_mh13, rfl, (fun z => by cases z), (fun _ => rfl), (fun _ _ _ => ⟨rfl, rfl⟩), (fun z => by cases z)⟩
theorem ix_wY198 : ix_PY 198 := ⟨Or.inl ⟨rfl, rfl⟩, plainFor_of_name ix_pn13, rfl, ix_de11, ix_mh13, rfl, (fun z => by cases z), (fun _ => rfl), (fun _ _ _ => ⟨rfl, rfl⟩), (fun z => by cases z)⟩
theorem ix_wY199 : ix_PY 199 := ⟨Or.inl ⟨rfl, rfl⟩, plainFor_of_name ix_pn13, rfl, ix_de11, ix_mh13, rfl, (fun z => by cases z), (fun _ => rfl), (fun _ _ _ => ⟨rfl, rfl⟩), (fun z => by cases z)⟩
theorem ix_wY200 : ix_PY 200 := ⟨Or.inl ⟨rfl, rfl⟩, plainFor_of_name ix_pn13, rfl, ix_de23, ix_mh13, rfl, (fun z => by cases z), (fun _ => rfl), (fun _ _ _ => ⟨rfl, rfl⟩), (fun z => by cases z)⟩
theorem ix_wY201 : ix_PY 201 := ⟨Or.inl ⟨rfl, rfl⟩, plainFor_of_name ix_pn13, rfl, ix_de9, ix_mh13, rfl, (fun z => by cases z), (fun _ => rfl), (fun _ _ _ => ⟨rfl, rfl⟩), (fun z => by cases z)⟩
theorem ix_wY202 : ix_PY 202 := ⟨Or.inl ⟨rfl, rfl⟩, plainFor_of_name ix_pn13, rfl, ix_de24, ix_mh13, rfl, (fun z => by cases z), (fun _ => rfl), (fun _ _ _ => ⟨rfl, rfl⟩), (fun z => by cases z)⟩
theorem ix_wY203 : ix_PY 203 := ⟨Or.inl ⟨rfl, rfl⟩, plainFor_of_name ix_pn13, rfl, ix_de31, ix_mh13, rfl, (fun z => by cases z), (fun _ => rfl), (fun _ _ _ => ⟨rfl, rfl⟩), (fun z => by cases z)⟩
theorem ix_wY204 : ix_PY 204 := ⟨Or.inl ⟨rfl, rfl⟩, plainFor_of_name ix_pn13, rfl, ix_de2, ix_mh13, rfl, (fun z => by cases z), (fun _ => rfl), (fun _ _ _ => ⟨rfl, rfl⟩), (fun z => by cases z)⟩
theorem ix_wY205 : ix_PY 205 := ⟨Or.inl ⟨rfl, rfl⟩, plainFor_of_name ix_pn13, rfl, ix_de12, ix_mh13, rfl, (fun z => by cases z), (fun _ => rfl), (fun _ _ _ => ⟨rfl, rfl⟩), (fun z => by cases z)⟩
theorem ix_wY206 : ix_PY 206 := ⟨Or.inl ⟨rfl, rfl⟩, plainFor_of_name ix_pn13, rfl, ix_de23, ix_mh13, rfl, (fun z => by cases z), (fun _ => rfl), (fun _ _ _ => ⟨rfl, rfl⟩), (fun z => by cases z)⟩
theorem ix_wY207 : ix_PY 207 := ⟨Or.inl ⟨rfl, rfl⟩, plainFor_of_name ix_pn13, rfl, ix_de2, ix_mh13, rfl, (fun z => by cases z), (fun _ => rfl), (fun _ _ _ => ⟨rfl, rfl⟩), (fun z => by cases z)⟩
theorem ix_wY208 : ix_PY 208 := ⟨Or.inl ⟨rfl, rfl⟩, plainFor_of_name ix_pn13, rfl, ix_de23, ix_mh13, rfl, (fun z => by cases z), (fun _ => rfl), (fun _ _ _ => ⟨rfl, rfl⟩), (fun z => by cases z)⟩
theorem ix_wY209 : ix_PY 209 := ⟨Or.inl ⟨rfl, rfl⟩, plainFor_of_name ix_pn13, rfl, ix_de7, ix_mh13, rfl, (fun _ => rfl), (fun z => by cases z), (fun z => by cases z), (fun z => by cases z)⟩
theorem ix_wY210 : ix_PY 210 := ⟨Or.inl ⟨rfl, rfl⟩, plainFor_of_name ix_pn13, rfl, ix_de7, ix_mh13, rfl, (fun _ => rfl), (fun z => by cases z), (fun z => by cases z), (fun z => by cases z)⟩
theorem ix_wY211 : ix_PY 211 := ⟨Or.inl ⟨rfl, rfl⟩, plainFor_of_name ix_pn13, rfl, ix_de1, ix_mh13, rfl, (fun z => by cases z), (fun _ => rfl), (fun _ _ _ => ⟨rfl, rfl⟩), (fun z => by cases z)⟩
theorem ix_wY212 : ix_PY 212 := ⟨Or.inl ⟨rfl, rfl⟩, plainFor_of_name ix_pn13, rfl, ix_de14, ix_mh13, rfl, (fun _ => rfl), (fun z => by cases z), (fun z => by cases z), (fun z => by cases z)⟩
theorem ix_wY213 : ix_PY 213 := ⟨Or.inl ⟨rfl, rfl⟩, plainFor_of_name ix_pn13, rfl, ix_de1, ix_mh13, rfl, (fun z => by cases z), (fun _ => rfl), (fun _ _ _ => ⟨rfl, rfl⟩), (fun z => by cases z)⟩
theorem ix_wY214 : ix_PY 214 := ⟨Or.inl ⟨rfl, rfl⟩, plainFor_of_name ix_pn13, rfl, ix_de31, ix_mh13, rfl, (fun z => by cases z), (fun _ => rfl), (fun _ _ _ => ⟨rfl, rfl⟩), (fun z => by cases z)⟩
theorem ix_wY215 : ix_PY 215 := ⟨Or.inl ⟨rfl, rfl⟩, plainFor_of_name ix_pn13, rfl, ix_de10, ix_mh13, rfl, (fun z => by cases z), (fun _ => rfl), (fun _ _ _ => ⟨rfl, rfl⟩), (fun z => by cases z)⟩
theorem ix_wY216 : ix_PY 216 := ⟨Or.inl ⟨rfl, rfl⟩, plainFor_of_name ix_pn13, rfl, ix_de32, ix_mh13, rfl, (fun _ => rfl), (fun z => by cases z), (fun z => by cases z), (fun z => by cases z)⟩
theorem ix_wY217 : ix_PY 217 := ⟨Or.inl ⟨rfl, rfl⟩, plainFor_of_name ix_pn13, rfl, ix_de9, ix_mh13, rfl, (fun z => by cases z), (fun _ => rfl), (fun _ _ _ => ⟨rfl, rfl⟩), (fun z => by cases z)⟩
theorem ix_wY218 : ix_PY 218 := ⟨Or.inl ⟨rfl, rfl⟩, plainFor_of_name ix_pn13, rfl, ix_de12, ix_mh13, rfl, (fun z => by cases z), (fun _ => rfl), (fun _ _ _ => ⟨rfl, rfl⟩), (fun z => by cases z)⟩
theorem ix_wY219 : ix_PY 219 := ⟨Or.inl ⟨rfl, rfl⟩, plainFor_of_name ix_pn13, rfl, ix_de13, ix_mh13, rfl, (fun z => by cases z), (fun _ => rfl), (fun _ _ _ => ⟨rfl, rfl⟩), (fun z => by cases z)⟩
theorem ix_wY220 : ix_PY 220 := ⟨Or.inl ⟨rfl, rfl⟩, plainFor_of_name ix_pn13, rfl, ix_de12, ix_mh13, rfl, (fun z => by cases z), (fun _ => rfl), (fun _ _ _ => ⟨rfl, rfl⟩), (fun z => by cases z)⟩
theorem ix_wY221 : ix_PY 221 := ⟨Or.inl ⟨rfl, rfl⟩, plainFor_of_name ix_pn13, rfl, ix_de12, ix_mh13, rfl, (fun z => by cases z), (fun _ => rfl), (fun _ _ _ => ⟨rfl, rfl⟩), (fun z => by cases z)⟩
theorem ix_wY222 : ix_PY 222 := ⟨Or.inl ⟨rfl, rfl⟩, plainFor_of_name ix_pn13, rfl, ix_de9, ix_mh13, rfl, (fun z => by cases z), (fun _ => rfl), (fun _ _ _ => ⟨rfl, rfl⟩), (fun z => by cases z)⟩
theorem ix_wY223 : ix_PY 223 := ⟨Or.inl ⟨rfl, rfl⟩, plainFor_of_name ix_pn13, rfl, ix_de7, ix_mh13, rfl, (fun z => by cases z), (fun _ => rfl), (fun _ _ _ => ⟨rfl, rfl⟩), (fun z => by cases z)⟩
theorem ix_wY224 : ix_PY 224 := ⟨Or.inl ⟨rfl, rfl⟩, plainFor_of_name ix_pn13, rfl, ix_de3, ix_mh13, rfl, (fun z => by cases z), (fun _ => rfl), (fun _ _ _ => ⟨rfl, rfl⟩), (fun z => by cases z)⟩
theorem ix_wY225 : ix_PY 225 := ⟨Or.inl ⟨rfl, rfl⟩, plainFor_of_name ix_pn13, rfl, ix_de2, ix_mh13, rfl, (fun z => by cases z), (fun _ => rfl), (fun _ _ _ => ⟨rfl, rfl⟩), (fun z => by cases z)⟩
theorem ix_wY226 : ix_PY 226 := ⟨Or.inl ⟨rfl, rfl⟩, plainFor_of_name ix_pn13, rfl, ix_de3, ix_mh13, rfl, (fun z => by cases z), (fun _ => rfl), (fun _ _ _ => ⟨rfl, rfl⟩), (fun z => by cases z)⟩
theorem ix_wY227 : ix_PY 227 := ⟨Or.inl ⟨rfl, rfl⟩, plainFor_of_name ix_pn13, rfl, ix_de12, ix_mh13, rfl, (fun z => by cases z), (fun _ => rfl), (fun _ _ _ => ⟨rfl, rfl⟩), (fun z => by cases z)⟩
theorem ix_wY228 : ix_PY 228 := ⟨Or.inl ⟨rfl, rfl⟩, plainFor_of_name ix_pn13, rfl, ix_de1, ix_mh13, rfl, (fun z => by cases z), (fun _ => rfl), (fun _ _ _ => ⟨rfl, rfl⟩), (fun z => by cases z)⟩
theorem ix_wY229 : ix_PY 229 := ⟨Or.inl ⟨rfl, rfl⟩, plainFor_of_name ix_pn13, rfl, ix_de2, ix_mh13, rfl, (fun z => by cases z), (fun _ => rfl), (fun _ _ _ => ⟨rfl, rfl⟩), (fun z => by cases z)⟩
theorem ix_wY230 : ix_PY 230 := ⟨Or.inl ⟨rfl, rfl⟩, plainFor_of_name ix_pn13, rfl, ix_de12, ix_mh13, rfl, (fun z => by cases z), (fun _ => rfl), (fun _ _ _ => ⟨rfl, rfl⟩), (fun z => by cases z)⟩
theorem ix_wY231 : ix_PY 231 := ⟨Or.inl ⟨rfl, rfl⟩, plainFor_of_name ix_pn13, rfl, ix_de15, ix_mh13, rfl, (fun z => by cases z), (fun _ => rfl), (fun _ _ _ => ⟨rfl, rfl⟩), (fun z => by cases z)⟩
theorem ix_wY232 : ix_PY 232 := ⟨Or.inl ⟨rfl, rfl⟩, plainFor_of_name ix_pn13, rfl, ix_de9, ix_mh13, rfl, (fun z => by cases z), (fun _ => rfl), (fun _ _ _ => ⟨rfl, rfl⟩), (fun z => by cases z)⟩
theorem ix_wY233 : ix_PY 233 := ⟨Or.inl ⟨rfl, rfl⟩, plainFor_of_name ix_pn13, rfl, ix_de7, ix_mh13, rfl, (fun z => by cases z), (fun _ => rfl), (fun _ _ _ => ⟨rfl, rfl⟩), (fun z => by cases z)⟩
theorem ix_wY234 : ix_PY 234 := ⟨Or.inl ⟨rfl, rfl⟩, plainFor_of_name ix_pn13, rfl, ix_de17, ix_mh13, rfl, (fun z => by cases z), (fun _ => rfl), (fun _ _ _ => ⟨rfl, rfl⟩), (fun z => by cases z)⟩
theorem ix_wY235 : ix_PY 235 := ⟨Or.inl ⟨rfl, rfl⟩, plainFor_of_name ix_pn13, rfl, ix_de15, ix_mh13, rfl, (fun z => by cases z), (fun _ => rfl), (fun _ _ _ => ⟨rfl, rfl⟩), (fun z => by cases z)⟩
theorem ix_wY236 : ix_PY 236 := ⟨Or.inl ⟨rfl, rfl⟩, plainFor_of_name ix_pn13, rfl, ix_de14, ix_mh13, rfl, (fun z => by cases z), (fun _ => rfl), (fun _ _ _ => ⟨rfl, rfl⟩), (fun z => by cases z)⟩
theorem ix_wY237 : ix_PY 237 := ⟨Or.inl ⟨rfl, rfl⟩, plainFor_of_name ix_pn13, rfl, ix_de9, ix_mh13, rfl, (fun z => by cases z), (fun _ => rfl), (fun _ _ _ => ⟨rfl, rfl⟩), (fun z => by cases z)⟩
theorem ix_wY238 : ix_PY 238 := ⟨Or.inl ⟨rfl, rfl⟩, plainFor_of_name ix_pn13, rfl, ix_de7, ix_mh13, rfl, (fun _ => rfl), (fun z => by cases z), (fun z => by cases z), (fun z => by cases z)⟩
theorem ix_wY239 : ix_PY 239 := ⟨Or.inl ⟨rfl, rfl⟩, plainFor_of_name ix_pn13, rfl, ix_de7, ix_mh13, rfl, (fun z => by cases z), (fun _ => rfl), (fun _ _ _ => ⟨rfl, rfl⟩), (fun z => by cases z)⟩
theorem ix_wY240 : ix_PY 240 := ⟨Or.inl ⟨rfl, rfl⟩, plainFor_of_name ix_pn13, rfl, ix_de9, ix_mh13, rfl, (fun z => by cases z), (fun _ => rfl), (fun _ _ _ => ⟨rfl, rfl⟩), (fun z => by cases z)⟩
theorem ix_wY241 : ix_PY 241 := ⟨Or.inl ⟨rfl, rfl⟩, plainFor_of_name ix_pn13, rfl, ix_de23, ix_mh13, rfl, (fun z => by cases z), (fun _ => rfl), (fun _ _ _ => ⟨rfl, rfl⟩), (fun z => by cases z)⟩
theorem ix_wY242 : ix_PY 242 := ⟨Or.inl ⟨rfl, rfl⟩, plainFor_of_name ix_pn13, rfl, ix_de31, ix_mh13, rfl, (fun z => by cases z), (fun _ => rfl), (fun _ _ _ => ⟨rfl, rfl⟩), (fun z => by cases z)⟩
theorem ix_wY243 : ix_PY 243 := ⟨Or.inl ⟨rfl, rfl⟩, plainFor_of_name ix_pn13, rfl, ix_de9, ix_mh13, rfl, (fun z => by cases z), (fun _ => rfl), (fun _ _ _ => ⟨rfl, rfl⟩), (fun z => by cases z)⟩
theorem ix_wY244 : ix_PY 244 := ⟨Or.inl ⟨rfl, rfl⟩, plainFor_of_name ix_pn13, rfl, ix_de9, ix_mh13, rfl, (fun z => by cases z), (fun _ => rfl), (fun _ _ _ => ⟨rfl, rfl⟩), (fun z => by cases z)⟩
theorem ix_wY245 : ix_PY 245 := ⟨Or.inl ⟨rfl, rfl⟩, plainFor_of_name ix_pn13, rfl, ix_de14, ix_mh13, rfl, (fun z => by cases z), (fun _ => rfl), (fun _ _ _ => ⟨rfl, rfl⟩), (fun z => by cases z)⟩
theorem ix_wY246 : ix_PY 246 := ⟨Or.inl ⟨rfl, rfl⟩, plainFor_of_name ix_pn13, rfl, ix_de26, ix_mh13, rfl, (fun z => by cases z), (fun _ => rfl), (fun _ _ _ => ⟨rfl, rfl⟩), (fun z => by cases z)⟩
theorem ix_wY247 : ix_PY 247 := ⟨Or.inl ⟨rfl, rfl⟩, plainFor_of_name ix_pn13, rfl, ix_de14, ix_mh13, rfl, (fun z => by cases z), (fun _ => rfl), (fun _ _ _ => ⟨rfl, rfl⟩), (fun z => by cases z)⟩
theorem ix_wY248 : ix_PY 248 := ⟨Or.inl ⟨rfl, rfl⟩, plainFor_of_name ix_pn13, rfl, ix_de17, ix_mh13, rfl, (fun z => by cases z), (fun _ => rfl), (fun _ _ _ => ⟨rfl, rfl⟩), (fun z => by cases z)⟩
theorem ix_wY249 : ix_PY 249 := ⟨Or.inl ⟨rfl, rfl⟩, plainFor_of_name ix_pn13, rfl, ix_de22, ix_mh13, rfl, (fun z => by cases z), (fun _ => rfl), (fun _ _ _ => ⟨rfl, rfl⟩), (fun z => by cases z)⟩
theorem ix_wY250 : ix_PY 250 := ⟨Or.inl ⟨rfl, rfl⟩, plainFor_of_name ix_pn13, rfl, ix_de8, ix_mh13, rfl, (fun z => by cases z), (fun _ => rfl), (fun _ _ _ => ⟨rfl, rfl⟩), (fun z => by cases z)⟩
theorem ix_wY251 : ix_PY 251 := ⟨Or.inl ⟨rfl, rfl⟩, plainFor_of_name ix_pn13, rfl, ix_de7, ix_mh13, rfl, (fun z => by cases z), (fun _ => rfl), (fun _ _ _ => ⟨rfl, rfl⟩), (fun z => by cases z)⟩
theorem ix_wY252 : ix_PY 252 := ⟨Or.inl ⟨rfl, rfl⟩, plainFor_of_name ix_pn13, rfl, ix_de21, ix_mh13, rfl, (fun z => by cases z), (fun _ => rfl), (fun _ _ _ => ⟨rfl, rfl⟩), (fun z => by cases z)⟩
theorem ix_wY253 : ix_PY 253 := ⟨Or.inl ⟨rfl, rfl⟩, plainFor_of_name ix_pn13, rfl, ix_de13, ix_mh13, rfl, (fun z => by cases z), (fun _ => rfl), (fun _ _ _ => ⟨rfl, rfl⟩), (fun z => by cases z)⟩
theorem ix_wY254 : ix_PY 254 := ⟨Or.inl ⟨rfl, rfl⟩, plainFor_of_name ix_pn13, rfl, ix_de11, ix_mh13, rfl, (fun z => by cases z), (fun _ => rfl), (fun _ _ _ => ⟨rfl, rfl⟩), (fun z => by cases z)⟩
theorem ix_wY255 : ix_PY 255 := ⟨Or.inl ⟨rfl, rfl⟩, plainFor_of_name ix_pn13, rfl, ix_de7, ix_mh13, rfl, (fun z => by cases z), (fun _ => rfl), (fun _ _ _ => ⟨rfl, rfl⟩), (fun z => by cases z)⟩
theorem ix_wY256 : ix_PY 256 := ⟨Or.inl ⟨rfl, rfl⟩, plainFor_of_name ix_pn13, rfl, ix_de7, ix_mh13, rfl, (fun z => by cases z), (fun _ => rfl), (fun _ _ _ => ⟨rfl, rfl⟩), (fun z => by cases z)⟩
theorem ix_wY257 : ix_PY 257 := ⟨Or.inl ⟨rfl, rfl⟩, plainFor_of_name ix_pn13, rfl, ix_de13, ix_mh13, rfl, (fun z => by cases z), (fun _ => rfl), (fun _ _ _ => ⟨rfl, rfl⟩), (fun z => by cases z)⟩
theorem ix_wY258 : ix_PY 258 := ⟨Or.inl ⟨rfl, rfl⟩, plainFor_of_name ix_pn13, rfl, ix_de10, ix_mh13, rfl, (fun z => by cases z), (fun _ => rfl), (fun _ _ _ => ⟨rfl, rfl⟩), (fun z => by cases z)⟩
theorem ix_wY259 : ix_PY 259 := ⟨Or.inl ⟨rfl, rfl⟩, plainFor_of_name ix_pn13, rfl, ix_de11, ix_mh13, rfl, (fun z => by cases z), (fun _ => rfl), (fun _ _ _ => ⟨rfl, rfl⟩), (fun z => by cases z)⟩
theorem ix_wY260 : ix_PY 260 := ⟨Or.inl ⟨rfl, rfl⟩, plainFor_of_name ix_pn13, rfl, ix_de7, ix_mh13, rfl, (fun z => by cases z), (fun _ => rfl), (fun _ _ _ => ⟨rfl, rfl⟩), (fun z => by cases z)⟩
theorem ix_wY261 : ix_PY 261 := ⟨Or.inl ⟨rfl, rfl⟩, plainFor_of_name ix_pn13, rfl, ix_de25, ix_mh13, rfl, (fun z => by cases z), (fun _ => rfl), (fun _ _ _ => ⟨rfl, rfl⟩), (fun z => by cases z)⟩
theorem ix_wY262 : ix_PY 262 := ⟨Or.inl ⟨rfl, rfl⟩, plainFor_of_name ix_pn13, rfl, ix_de16, ix_mh13, rfl, (fun z => by cases z), (fun _ => rfl), (fun _ _ _ => ⟨rfl, rfl⟩), (fun z => by cases z)⟩
theorem ix_wY263 : ix_PY 263 := ⟨Or.inl ⟨rfl, rfl⟩, plainFor_of_name ix_pn13, rfl, ix_de10, ix_mh13, rfl, (fun _ => rfl), (fun z => by cases z), (fun z => by cases z), (fun z => by cases z)⟩
theorem ix_wY264 : ix_PY 264 := ⟨Or.inl ⟨rfl, rfl⟩, plainFor_of_name ix_pn13, rfl, ix_de13, ix_mh13, rfl, (fun z => by cases z), (fun _ => rfl), (fun _ _ _ => ⟨rfl, rfl⟩), (fun z => by cases z)⟩
theorem ix_wY265 : ix_PY 265 := ⟨Or.inl ⟨rfl, rfl⟩, plainFor_of_name ix_pn13, rfl, ix_de7, ix_mh13, rfl, (fun z => by cases z), (fun _ => rfl), (fun _ _ _ => ⟨rfl, rfl⟩), (fun z => by cases z)⟩
theorem ix_wY266 : ix_PY 266 := ⟨Or.inl ⟨rfl, rfl⟩, plainFor_of_name ix_pn13, rfl, ix_de9, ix_mh13, rfl, (fun z => by cases z), (fun _ => rfl), (fun _ _ _ => ⟨rfl, rfl⟩), (fun z => by cases z)⟩
theorem ix_wY267 : ix_PY 267 := ⟨Or.inl ⟨rfl, rfl⟩, plainFor_of_name ix_pn13, rfl, ix_de34, ix_mh13, rfl, (fun z => by cases z), (fun _ => rfl), (fun _ _ _ => ⟨rfl, rfl⟩), (fun z => by cases z)⟩
theorem ix_wY268 : ix_PY 268 := ⟨Or.inl ⟨rfl, rfl⟩, plainFor_of_name ix_pn13, rfl, ix_de15, ix_mh13, rfl, (fun z => by cases z), (fun _ => rfl), (fun _ _ _ => ⟨rfl, rfl⟩), (fun z => by cases z)⟩
theorem ix_wY269 : ix_PY 269 := ⟨Or.inl ⟨rfl, rfl⟩, plainFor_of_name ix_pn13, rfl, ix_de9, ix_mh13, rfl, (fun z => by cases z), (fun _ => rfl), (fun _ _ _ => ⟨rfl, rfl⟩), (fun z => by cases z)⟩
theorem ix_wY270 : ix_PY 270 := ⟨Or.inl ⟨rfl, rfl⟩, plainFor_of_name ix_pn13, rfl, ix_de7, ix_mh13, rfl, (fun z => by cases z), (fun _ => rfl), (fun _ _ _ => ⟨rfl, rfl⟩), (fun z => by cases z)⟩
theorem ix_wY271 : ix_PY 271 := ⟨Or.inl ⟨rfl, rfl⟩, ix_pq271, rfl, ix_de11, ix_mh14, rfl, (fun _ => rfl), (fun z => by cases z), (fun z => by cases z), (fun z => by cases z)⟩
theorem ix_wY272 : ix_PY 272 := ⟨Or.inl ⟨rfl, rfl⟩, ix_pq272, rfl, ix_de35, ix_mh15, rfl, (fun _ => rfl), (fun z => by cases z), (fun z => by cases z), (fun z => by cases z)⟩
theorem ix_wY273 : ix_PY 273 := ⟨Or.inl ⟨rfl, rfl⟩, ix_pq273, rfl, ix_de11, ix_mh15, rfl, (fun _ => rfl), (fun z => by cases z), (fun z => by cases z), (fun z => by cases z)⟩
theorem ix_wY274 : ix_PY 274 := ⟨Or.inl ⟨rfl, rfl⟩, ix_pq274, rfl, ix_de11, ix_mh15, rfl, (fun _ => rfl), (fun z => by cases z), (fun z => by cases z), (fun z => by cases z)⟩
theorem ix_wY275 : ix_PY 275 := ⟨Or.inl ⟨rfl, rfl⟩, ix_pq275, rfl, ix_de35, ix_mh15, rfl, (fun _ => rfl), (fun z => by cases z), (fun z => by cases z), (fun z => by cases z)⟩
theorem ix_wY276 : ix_PY 276 := ⟨Or.inl ⟨rfl, rfl⟩, ix_pq276, rfl, ix_de11, ix_mh15, rfl, (fun _ => rfl), (fun z => by cases z), (fun z => by cases z), (fun z => by cases z)⟩
theorem ix_wY277 : ix_PY 277 := ⟨Or.inl ⟨rfl, rfl⟩, ix_pq277, rfl, ix_de7, ix_mh15, rfl, (fun _ => rfl), (fun z => by cases z), (fun z => by cases z), (fun z => by cases z)⟩
theorem ix_wY278 : ix_PY 278 := ⟨Or.inl ⟨rfl, rfl⟩, ix_pq278, rfl, ix_de1, ix_mh16, rfl, (fun z => by cases z), (fun _ => rfl), (fun _ _ z => absurd rfl z), (fun z => by cases z)⟩
theorem ix_wY279 : ix_PY 279 := ⟨Or.inl ⟨rfl, rfl⟩, ix_pq279, rfl, ix_de0, ix_mh16, rfl, (fun z => by cases z), (fun _ => rfl), (fun _ _ z => absurd rfl z), (fun z => by cases z)⟩
theorem ix_wY280 : ix_PY 280 := ⟨Or.inl ⟨rfl, rfl⟩, ix_pq280, rfl, ix_de6, ix_mh16, rfl, (fun z => by cases z), (fun _ => rfl), (fun _ _ z => absurd rfl z), (fun z => by cases z)⟩
theorem ix_wY281 : ix_PY 281 := ⟨Or.inl ⟨rfl, rfl⟩, ix_pq281, rfl, ix_de3, ix_mh16, rfl, (fun z => by cases z), (fun _ => rfl), (fun _ _ z => absurd rfl z), (fun z => by cases z)⟩
theorem ix_wY282 : ix_PY 282 := ⟨Or.inl ⟨rfl, rfl⟩, ix_pq282, rfl, ix_de12, ix_mh16, rfl, (fun _ => rfl), (fun z => by cases z), (fun z => by cases z), (fun z => by cases z)⟩
theorem ix_wY283 : ix_PY 283 := ⟨Or.inl ⟨rfl, rfl⟩, ix_pq283, rfl, ix_de74, ix_mh17, rfl, (fun _ => rfl), (fun z => by cases z), (fun z => by cases z), (fun z => by cases z)⟩
theorem ix_wY284 : ix_PY 284 := ⟨Or.inl ⟨rfl, rfl⟩, ix_pq284, rfl, ix_de76, ix_mh18, rfl, (fun _ => rfl), (fun z => by cases z), (fun z => by cases z), (fun z => by cases z)⟩
theorem ix_wY285 : ix_PY 285 := ⟨Or.inl ⟨rfl, rfl⟩, ix_pq285, rfl, ix_de20, ix_mh19, rfl, (fun _ => rfl), (fun z => by cases z), (fun z => by cases z), (fun z => by cases z)⟩
set_option maxRecDepth 10000 in
theorem ix_wY : ∀ mj, mj < 286 → (!Nat.beq mj 0) = true → ix_PY mj := by
  intro mj h h0
  have q : ∀ a, a < 286 → (!Nat.beq a 0) = true → ix_PY a := (lt_s (lt_s (lt_s (lt_s (lt_s (lt_s (lt_s (lt_s (lt_s (lt_s (lt_s (lt_s (lt_s (lt_s (lt_s (lt_s (lt_s (lt_s (lt_s (lt_s (lt_s (lt_s (lt_s (lt_s (lt_s (lt_s (lt_s (lt_s (lt_s (lt_s (lt_s (lt_s (lt_s (lt_s (lt_s (lt_s (lt_s (lt_s (lt_s (lt_s (lt_s (lt_s (lt_s (lt_s (lt_s (lt_s (lt_s (lt_s (lt_s (lt_s (lt_s (lt_s (lt_s (lt_s (lt_s (lt_s (lt_s (lt_s (lt_s (lt_s (lt_s (lt_s (lt_s (lt_s (lt_s (lt_s (lt_s (lt_s (lt_s (lt_s (lt_s (lt_s (lt_s (lt_s (lt_s (lt_s (lt_s (lt_s (lt_s (lt_s (lt_s (lt_s (lt_s (lt_s (lt_s (lt_s (lt_s (lt_s (lt_s (lt_s (lt_s (lt_s (lt_s (lt_s (lt_s (lt_s (lt_s (lt_s (lt_s (lt_s (lt_s (lt_s (lt_s (lt_s (lt_s (lt_s (lt_s (lt_s (lt_s (lt_s (lt_s (lt_s (lt_s (lt_s (lt_s (lt_s (lt_s (lt_s (lt_s (lt_s (lt_s (lt_s (lt_s (lt_s (lt_s (lt_s (lt_s (lt_s (lt_s (lt_s (lt_s (lt_s (lt_s (lt_s (lt_s (lt_s (lt_s (lt_s (lt_s (lt_s (lt_s (lt_s (lt_s (lt_s (lt_s (lt_s (lt_s (lt_s (lt_s (lt_s (lt_s (lt_s (lt_s (lt_s (lt_s (lt_s (lt_s (lt_s (lt_s (lt_s (lt_s (lt_s (lt_s (lt_s (lt_s (lt_s (lt_s (lt_s (lt_s (lt_s (lt_s (lt_s (lt_s (lt_s (lt_s (lt_s (lt_s (lt_s (lt_s (lt_s (lt_s (lt_s (lt_s (lt_s (lt_s (lt_s (lt_s (lt_s (lt_s (lt_s (lt_s (lt_s (lt_s (lt_s (lt_s (lt_s (lt_s (lt_s (lt_s (lt_s (lt_s (lt_s (lt_s (lt_s (lt_s (lt_s (lt_s (lt_s (lt_s (lt_s (lt_s (lt_s (lt_s (lt_s (lt_s (lt_s (lt_s (lt_s (lt_s (lt_s (lt_s (lt_s (lt_s (lt_s (lt_s (lt_s (lt_s (lt_s (lt_s (lt_s (lt_s (lt_s (lt_s (lt_s (lt_s (lt_s (lt_s (lt_s (lt_s (lt_s (lt_s (lt_s (lt_s (lt_s (lt_s (lt_s (lt_s (lt_s (lt_s (lt_s (lt_s (lt_s (lt_s (lt_s (lt_s (lt_s (lt_s (lt_s (lt_s (lt_s (lt_s (lt_s (lt_s (lt_s (lt_s (lt_s (lt_s (lt_s (lt_s (lt_s (lt_s (lt_s (lt_s (lt_s (lt_s (lt_s (lt_s (lt_s (lt_s (lt_s (lt_s (lt_s (lt_s (lt_s (lt_s (lt_s lt_0 (fun z => by cases z)) (fun _ => ix_wY1)) (fun _ => ix_wY2)) (fun _ => ix_wY3)) (fun _ => ix_wY4)) (fun _ => ix_wY5)) (fun _ => ix_wY6)) (fun _ => ix_wY7)) (fun _ => ix_wY8)) (fun _ => ix_wY9)) (fun _ => ix_wY10)) (fun _ => ix_wY11)) (fun _ => ix_wY12)) (fun _ => ix_wY13)) (fun _ => ix_wY14)) (fun _ => ix_wY15)) (fun _ => ix_wY16)) (fun _ => ix_wY17)) (fun _ => ix_wY18)) (fun _ => ix_wY19)) (fun _ => ix_wY20)) (fun _ => ix_wY21)) (fun _ => ix_wY22)) (fun _ => ix_wY23)) (fun _ => ix_wY24)) (fun _ => ix_wY25)) (fun _ => ix_wY26)) (fun _ => ix_wY27)) (fun _ => ix_wY28)) (fun _ => ix_wY29)) (fun _ => ix_wY30)) (fun _ => ix_wY31)) (fun _ => ix_wY32)) (fun _ => ix_wY33)) (fun _ => ix_wY34)) (fun _ => ix_wY35)) (fun _ => ix_wY36)) (fun _ => ix_wY37)) (fun _ => ix_wY38)) (fun _ => ix_wY39)) (fun _ => ix_wY40)) (fun _ => ix_wY41)) (fun _ => ix_wY42)) (fun _ => ix_wY43)) (fun _ => ix_wY44)) (fun _ => ix_wY45)) (fun _ => ix_wY46)) (fun _ => ix_wY47)) (fun _ => ix_wY48)) (fun _ => ix_wY49)) (fun _ => ix_wY50)) (fun _ => ix_wY51)) (fun _ => ix_wY52)) (fun _ => ix_wY53)) (fun _ => ix_wY54)) (fun _ => ix_wY55)) (fun _ => ix_wY56)) (fun _ => ix_wY57)) (fun _ => ix_wY58)) (fun _ => ix_wY59)) (fun _ => ix_wY60)) (fun _ => ix_wY61)) (fun _ => ix_wY62)) (fun _ => ix_wY63)) (fun _ => ix_wY64)) (fun _ => ix_wY65)) (fun _ => ix_wY66)) (fun _ => ix_wY67)) (fun _ => ix_wY68)) (fun _ => ix_wY69)) (fun _ => ix_wY70)) (fun _ => ix_wY71)) (fun _ => ix_wY72)) (fun _ => ix_wY73)) (fun _ => ix_wY74)) (fun _ => ix_wY75)) (fun _ => ix_wY76)) (fun _ => ix_wY77)) (fun _ => ix_wY78)) (fun _ => ix_wY79)) (fun _ => ix_wY80)) (fun _ => ix_wY81)) (fun _ => ix_wY82)) (fun _ => ix_wY83)) (fun _ => ix_wY84)) (fun _ => ix_wY85)) (fun _ => ix_wY86)) (fun _ => ix_wY87)) (fun _ => ix_wY88)) (fun _ => ix_wY89)) (fun _ => ix_wY90)) (fun _ => ix_wY91)) (fun _ => ix_wY92)) (fun _ => ix_wY93)) (fun _ => ix_wY94)) (fun _ => ix_wY95)) (fun _ => ix_wY96)) (fun _ => ix_wY97)) (fun _ => ix_wY98)) (fun _ => ix_wY99)) (fun _ => ix_wY100)) (fun _ => ix_wY101)) (fun _ => ix_wY102)) (fun _ => ix_wY103)) (fun _ => ix_wY104)) (fun _ => ix_wY105)) (fun _ => ix_wY106)) (fun _ => ix_wY107)) (fun _ => ix_wY108)) (fun _ => ix_wY109)) (fun _ => ix_wY110)) (fun _ => ix_wY111)) (fun _ => ix_wY112)) (fun _ => ix_wY113)) (fun _ => ix_wY114)) (fun _ => ix_wY115)) (fun _ => ix_wY116)) (fun _ => ix_wY117)) (fun _ => ix_wY118)) (fun _ => ix_wY119)) (fun _ => ix_wY120)) (fun _ => ix_wY121)) (fun _ => ix_wY122)) (fun _ => ix_wY123)) (fun _ => ix_wY124)) (fun _ => ix_wY125)) (fun _ => ix_wY126)) (fun _ => ix_wY127)) (fun _ => ix_wY128)) (fun _ => ix_wY129)) (fun _ => ix_wY130)) (fun _ => ix_wY131)) (fun _ => ix_wY132)) (fun _ => ix_wY133)) (fun _ => ix_wY134)) (fun _ => ix_wY135)) (fun _ => ix_wY136)) (fun _ => ix_wY137)) (fun _ => ix_wY138)) (fun _ => ix_wY139)) (fun _ => ix_wY140)) (fun _ => ix_wY141)) (fun _ => ix_wY142)) (fun _ => ix_wY143)) (fun _ => ix_wY144)) (fun _ => ix_wY145)) (fun _ => ix_wY146)) (fun _ => ix_wY147)) (fun _ => ix_wY148)) (fun _ => ix_wY149)) (fun _ => ix_wY150)) (fun _ => ix_wY151)) (fun _ => ix_wY152)) (fun _ => ix_wY153)) (fun _ => ix_wY154)) (fun _ => ix_wY155)) (fun _ => ix_wY156)) (fun _ => ix_wY157)) (fun _ => ix_wY158)) (fun _ => ix_wY159)) (fun _ => ix_wY160)) (fun _ => ix_wY161)) (fun _ => ix_wY162)) (fun _ => ix_wY163)) (fun _ => ix_wY164)) (fun _ => ix_wY165)) (fun _ => ix_wY166)) (fun _ => ix_wY167)) (fun _ => ix_wY168)) (fun _ => ix_wY169)) (fun _ => ix_wY170)) (fun _ => ix_wY171)) (fun _ => ix_wY172)) (fun _ => ix_wY173)) (fun _ => ix_wY174)) (fun _ => ix_wY175)) (fun _ => ix_wY176)) (fun _ => ix_wY177)) (fun _ => ix_wY178)) (fun _ => ix_wY179)) (fun _ => ix_wY180)) (fun _ => ix_wY181)) (fun _ => ix_wY182)) (fun _ => ix_wY183)) (fun _ => ix_wY184)) (fun _ => ix_wY185)) (fun _ => ix_wY186)) (fun _ => ix_wY187)) (fun _ => ix_wY188)) (fun _ => ix_wY189)) (fun _ => ix_wY190)) (fun _ => ix_wY191)) (fun _ => ix_wY192)) (fun _ => ix_wY193)) (fun _ => ix_wY194)) (fun _ => ix_wY195)) (fun _ => ix_wY196)) (fun _ => ix_wY197)) (fun _ => ix_wY198)) (fun _ => ix_wY199)) (fun _ => ix_wY200)) (fun _ => ix_wY201)) (fun _ => ix_wY202)) (fun _ => ix_wY203)) (fun _ => ix_wY204)) (fun _ => ix_wY205)) (fun _ => ix_wY206)) (fun _ => ix_wY207)) (fun _ => ix_wY208)) (fun _ => ix_wY209)) (fun _ => ix_wY210)) (fun _ => ix_wY211)) (fun _ => ix_wY212)) (fun _ => ix_wY213)) (fun _ => ix_wY214)) (fun _ => ix_wY215)) (fun _ => ix_wY216)) (fun _ => ix_wY217)) (fun _ => ix_wY218)) (fun _ => ix_wY219)) (fun _ => ix_wY220)) (fun _ => ix_wY221)) (fun _ => ix_wY222)) (fun _ => ix_wY223)) (fun _ => ix_wY224)) (fun _ => ix_wY225)) (fun _ => ix_wY226)) (fun _ => ix_wY227)) (fun _ => ix_wY228)) (fun _ => ix_wY229)) (fun _ => ix_wY230)) (fun _ => ix_wY231)) (fun _ => ix_wY232)) (fun _ => ix_wY233)) (fun _ => ix_wY234)) (fun _ => ix_wY235)) (fun _ => ix_wY236)) (fun _ => ix_wY237)) (fun _ => ix_wY238)) (fun _ => ix_wY239)) (fun _ => ix_wY240)) (fun _ => ix_wY241)) (fun _ => ix_wY242)) (fun _ => ix_wY243)) (fun _ => ix_wY244)) (fun _ => ix_wY245)) (fun _ => ix_wY246)) (fun _ => ix_wY247)) (fun _ => ix_wY248)) (fun _ => ix_wY249)) (fun _ => ix_wY250)) (fun _ => ix_wY251)) (fun _ => ix_wY252)) (fun _ => ix_wY253)) (fun _ => ix_wY254)) (fun _ => ix_wY255)) (fun _ => ix_wY256)) (fun _ => ix_wY257)) (fun _ => ix_wY258)) (fun _ => ix_wY259)) (fun _ => ix_wY260)) (fun _ => ix_wY261)) (fun _ => ix_wY262)) (fun _ => ix_wY263)) (fun _ => ix_wY264)) (fun _ => ix_wY265)) (fun _ => ix_wY266)) (fun _ => ix_wY267)) (fun _ => ix_wY268)) (fun _ => ix_wY269)) (fun _ => ix_wY270)) (fun _ => ix_wY271)) (fun _ => ix_wY272)) (fun _ => ix_wY273)) (fun _ => ix_wY274)) (fun _ => ix_wY275)) (fun _ => ix_wY276)) (fun _ => ix_wY277)) (fun _ => ix_wY278)) (fun _ => ix_wY279)) (fun _ => ix_wY280)) (fun _ => ix_wY281)) (fun _ => ix_wY282)) (fun _ => ix_wY283)) (fun _ => ix_wY284)) (fun _ => ix_wY285))
  exact q mj h h0
theorem ix_fnd {α : Type} {l : List (Nat × α)} {idx : Nat} {e : Nat × α} (h : (l.find? fun e => Nat.beq e.1 idx) = some e) : e ∈ l ∧ e.1 = idx := ⟨List.mem_of_find?_eq_some h, Nat.eq_of_beq_eq_true (by simpa using List.find?_some h)⟩
theorem ix_fld_ok {o idx ci k : Nat} (h : ix_fld o idx = some (ci, k)) : ∃ C T N, ix_cls[ci]? = some (C, T, N) ∧ k < N ∧ Cond.fieldLink (ix_cn o) idx C (T k).2.1 (T k).2.2.1 ∈ lw_tbl := by
  unfold ix_fld at h
  cases hb : Nat.blt o ix_NO with
  | false => rw [hb] at h; cases h
  | true =>
    rw [hb] at h
    have ho : o < 20 := Nat.le_of_ble_eq_true hb
    cases hf : ((ix_jF o).find? fun e => Nat.beq e.1 idx) with
    | none => simp [hf] at h
    | some e =>
      simp only [hf, cond_true, Option.map_some, Option.some.injEq, Prod.mk.injEq] at h
      obtain ⟨rfl, rfl⟩ := h
      obtain ⟨hm, rfl⟩ := ix_fnd hf
      obtain ⟨q, h1, h2, h3⟩ := ix_wF o ho e hm
      exact ⟨q.1, q.2.1, q.2.2, h1, h2, ix_wa_mem h3⟩
theorem ix_cls_len : ix_cls.length = 13 := by rfl
theorem ix_cls_ok {ci N : Nat} {C : String} {T : u_T} (h : ix_cls[ci]? = some (C, T, N)) : (∀ w ∈ u_ws C T N, w ∈ lw_tbl) ∧ (∀ k, k < N → parseFieldDescriptor (T k).2.2.1 = some (ix_fty ci k)) ∧ (∀ a, a < N → ∀ b, b < N → a ≠ b → (T a).2.1 ≠ (T b).2.1) ∧ (∀ k, k < N → (T k).1 = C ∧ (T k).2.2.2 = ix_fin ci k) ∧ (0 < N → C = ix_cn (ix_oc ci)) := by
  have hlt : ci < 13 := by rw [← ix_cls_len]; exact (List.getElem?_eq_some_iff.mp h).1
  have ws : ∀ {n : Nat}, (∀ k, k < n → ix_at (ix_lp ci k) = some (u_lay C T k)) → ∀ w ∈ u_ws C T n, w ∈ lw_tbl := fun hk w hw => by
    obtain ⟨k, hk2, rfl⟩ := List.mem_map.mp hw
    exact ix_wa_mem (hk k (List.mem_range.mp hk2))
  have : ci = 0 ∨ ci = 1 ∨ ci = 2 ∨ ci = 3 ∨ ci = 4 ∨ ci = 5 ∨ ci = 6 ∨ ci = 7 ∨ ci = 8 ∨ ci = 9 ∨ ci = 10 ∨ ci = 11 ∨ ci = 12 := by omega
  rcases this with rfl | rfl | rfl | rfl | rfl | rfl | rfl | rfl | rfl | rfl | rfl | rfl | rfl <;> cases h
  · exact ⟨ws ix_wK0, by decide +kernel, by decide +kernel, by decide +kernel, fun _ => rfl⟩
  · exact ⟨ws ix_wK1, by decide +kernel, by decide +kernel, by decide +kernel, fun _ => rfl⟩
  · exact ⟨ws ix_wK2, by decide +kernel, by decide +kernel, by decide +kernel, fun _ => rfl⟩
  · exact ⟨ws ix_wK3, by decide +kernel, by decide +kernel, by decide +kernel, fun _ => rfl⟩
  · exact ⟨ws ix_wK4, by decide +kernel, by decide +kernel, by decide +kernel, fun _ => rfl⟩
  · exact ⟨ws ix_wK5, by decide +kernel, by decide +kernel, by decide +kernel, fun _ => rfl⟩
  · exact ⟨ws ix_wK6, by decide +kernel, by decide +kernel, by decide +kernel, fun _ => rfl⟩
  · exact ⟨ws ix_wK7, by decide +kernel, by decide +kernel, by decide +kernel, fun _ => rfl⟩
  · exact ⟨ws ix_wK8, by decide +kernel, by decide +kernel, by decide +kernel, fun _ => rfl⟩
  · exact ⟨ws ix_wK9, by decide +kernel, by decide +kernel, by decide +kernel, fun _ => rfl⟩
  · exact ⟨ws ix_wK10, by decide +kernel, by decide +kernel, by decide +kernel, fun _ => rfl⟩
  · exact ⟨ws ix_wK11, fun k hk => absurd hk (Nat.not_lt_zero k), fun a ha => absurd ha (Nat.not_lt_zero a), fun k hk => absurd hk (Nat.not_lt_zero k), fun hk => absurd hk (Nat.lt_irrefl 0)⟩
  · exact ⟨ws ix_wK12, fun k hk => absurd hk (Nat.not_lt_zero k), fun a ha => absurd ha (Nat.not_lt_zero a), fun k hk => absurd hk (Nat.not_lt_zero k), fun hk => absurd hk (Nat.lt_irrefl 0)⟩
noncomputable def ix_fN (ci : Nat) : Bool := match ix_cls[ci]? with
  | some q => Nat.beq (ix_dv ci).length q.2.2 && ((List.range q.2.2).all fun j => decide (defaultValue (ix_fty ci j) = vp_V (ix_dv ci) j)) && ((ix_dv ci).all fun v => match v with
    | .ref _ => false
    | _ => true)
  | none => false
theorem ix_fN_all : ((List.range 11).all fun ci => ix_fN ci) = true := by decide +kernel
theorem ix_jN_lt : ∀ o, o < 20 → ∀ e ∈ ix_jN o, e.2.1 < 11 := by
  have : ((List.range 20).all fun o => (ix_jN o).all fun e => Nat.blt e.2.1 11) = true := by decide +kernel
  intro o ho e he
  exact Nat.le_of_ble_eq_true (List.all_eq_true.mp (List.all_eq_true.mp this o (List.mem_range.mpr ho)) e he)
theorem ix_nw_ok {o idx ci : Nat} (h : ix_nw o idx = some ci) : ∃ C T N, ix_cls[ci]? = some (C, T, N) ∧ Cond.classLink (ix_cn o) idx C ∈ lw_tbl ∧ Cond.instantiable C N ∈ lw_tbl ∧ Cond.initialized C ∈ lw_tbl ∧ (ix_dv ci).length = N ∧ (∀ j, j < N → defaultValue (ix_fty ci j) = vp_V (ix_dv ci) j) ∧ (∀ v ∈ ix_dv ci, ∀ r, v ≠ .ref r) := by
  unfold ix_nw at h
  cases hb : Nat.blt o ix_NO with
  | false => rw [hb] at h; cases h
  | true =>
    rw [hb] at h
    have ho : o < 20 := Nat.le_of_ble_eq_true hb
    cases hf : ((ix_jN o).find? fun e => Nat.beq e.1 idx) with
    | none => simp [hf] at h
    | some e =>
      simp only [hf, cond_true, Option.map_some, Option.some.injEq] at h
      subst h
      obtain ⟨hm, rfl⟩ := ix_fnd hf
      obtain ⟨q, h1, h2, h3, h4⟩ := ix_wN o ho e hm
      have h5 := List.all_eq_true.mp ix_fN_all e.2.1 (List.mem_range.mpr (ix_jN_lt o ho e hm))
      unfold ix_fN at h5
      rw [h1] at h5
      simp only [Bool.and_eq_true] at h5
      obtain ⟨⟨a4, a5⟩, a6⟩ := h5
      refine ⟨q.1, q.2.1, q.2.2, h1, ix_wa_mem h2, ix_wa_mem h3, ix_wa_mem h4, Nat.eq_of_beq_eq_true a4, fun j hj => of_decide_eq_true (List.all_eq_true.mp a5 j (List.mem_range.mpr hj)), fun v hv r hr => ?_⟩
      have := List.all_eq_true.mp a6 v hv
      rw [hr] at this
      cases this
theorem ix_kl_ok {o idx : Nat} {v : Int64} (h : ix_kl o idx = some v) : Cond.constantLong (ix_cn o) idx v ∈ lw_tbl := by
  unfold ix_kl at h
  cases hb : Nat.blt o ix_NO with
  | false => rw [hb] at h; cases h
  | true =>
    rw [hb] at h
    have ho : o < 20 := Nat.le_of_ble_eq_true hb
    cases hf : ((ix_jL o).find? fun e => Nat.beq e.1 idx) with
    | none => simp [hf] at h
    | some e =>
      simp only [hf, cond_true, Option.map_some, Option.some.injEq] at h
      subst h
      obtain ⟨hm, rfl⟩ := ix_fnd hf
      exact ix_wa_mem (ix_wL o ho e hm)
theorem ix_kc_ok {o idx : Nat} {v : Value} (h : ix_kc o idx = some v) : ∃ x, v = .int x ∧ Cond.constant (ix_cn o) idx x ∈ lw_tbl := by
  unfold ix_kc at h
  cases hb : Nat.blt o ix_NO with
  | false => rw [hb] at h; cases h
  | true =>
    rw [hb] at h
    have ho : o < 20 := Nat.le_of_ble_eq_true hb
    cases hf : ((ix_jC o).find? fun e => Nat.beq e.1 idx) with
    | none => simp [hf] at h
    | some e =>
      simp only [hf, cond_true, Option.map_some, Option.some.injEq] at h
      subst h
      obtain ⟨hm, rfl⟩ := ix_fnd hf
      exact ⟨_, rfl, ix_wa_mem (ix_wC o ho e hm)⟩
theorem ix_anw_ok {o idx : Nat} (h : ix_anw o idx = true) : Cond.classLink (ix_cn o) idx ix_nD ∈ lw_tbl ∧ Cond.arrayOver (.object ix_nD) ∈ lw_tbl := by
  unfold ix_anw at h
  simp only [Bool.and_eq_true] at h
  have ho : o < 20 := Nat.le_of_ble_eq_true h.1
  cases hf : ((ix_jA o).find? fun e => Nat.beq e.1 idx) with
  | none => rw [hf] at h; cases h.2
  | some e =>
    obtain ⟨hm, rfl⟩ := ix_fnd hf
    exact ⟨ix_wa_mem (ix_wA o ho e hm), ix_ar_q⟩
theorem ix_ct_ok {o idx ci : Nat} (h : ix_ct o idx = some ci) : ∃ C T N, ix_cls[ci]? = some (C, T, N) ∧ Cond.classLink (ix_cn o) idx C ∈ lw_tbl := by
  unfold ix_ct at h
  cases hb : Nat.blt o ix_NO with
  | false => rw [hb] at h; cases h
  | true =>
    rw [hb] at h
    have ho : o < 20 := Nat.le_of_ble_eq_true hb
    cases hf : ((ix_jX o).find? fun e => Nat.beq e.1 idx) with
    | none => simp [hf] at h
    | some e =>
      simp only [hf, cond_true, Option.map_some, Option.some.injEq] at h
      subst h
      obtain ⟨hm, rfl⟩ := ix_fnd hf
      obtain ⟨q, h1, h2⟩ := ix_wX o ho e hm
      exact ⟨q.1, q.2.1, q.2.2, h1, ix_wa_mem h2⟩
theorem ix_gs_ok {o idx r : Nat} (h : ix_gs o idx = some r) : Cond.fieldLink (ix_cn o) idx (ix_sC r).1 (ix_sC r).2.1 (ix_sC r).2.2 ∈ lw_tbl := by
  unfold ix_gs at h
  cases hb : Nat.blt o ix_NO with
  | false => rw [hb] at h; cases h
  | true =>
    rw [hb] at h
    have ho : o < 20 := Nat.le_of_ble_eq_true hb
    cases hf : ((ix_jS o).find? fun e => Nat.beq e.1 idx) with
    | none => simp [hf] at h
    | some e =>
      simp only [hf, cond_true, Option.map_some, Option.some.injEq] at h
      subst h
      obtain ⟨hm, rfl⟩ := ix_fnd hf
      exact ix_wa_mem (ix_wS o ho e hm)
theorem ix_arr_ok : Cond.arrayClass .int ∈ lw_tbl ∧ Cond.arrayClass .long ∈ lw_tbl ∧ Cond.arrayClass .char ∈ lw_tbl ∧ Cond.arrayClass .boolean ∈ lw_tbl := ⟨ix_ar_int, ix_ar_long, ix_ar_char, ix_ar_boolean⟩
theorem ix_cD_ok : ∃ T N, ix_cls[ix_cD]? = some (ix_nD, T, N) := ⟨_, _, rfl⟩
theorem ix_cal_in {o idx q mj : Nat} (h : ix_cal o idx = some (q, mj)) : ∃ p, ix_PM o (idx, q, mj, p) := by
  unfold ix_cal at h
  cases hb : Nat.blt o ix_NO with
  | false => rw [hb] at h; cases h
  | true =>
    rw [hb] at h
    have ho : o < 20 := Nat.le_of_ble_eq_true hb
    cases hf : ((ix_jM o).find? fun e => Nat.beq e.1 idx) with
    | none => simp [hf] at h
    | some e =>
      simp only [hf, cond_true, Option.map_some, Option.some.injEq, Prod.mk.injEq] at h
      obtain ⟨rfl, rfl⟩ := h
      obtain ⟨hm, rfl⟩ := ix_fnd hf
      exact ⟨e.2.2.2, ix_wM o ho e hm⟩
theorem ix_obj_ok {o idx mj : Nat} (h : ix_cal o idx = some (1, mj)) : Cond.methodLink (ix_cn o) idx Lib.objectInit ∈ lw_tbl ∧ Cond.instanceMethod Lib.objectInit ∈ lw_tbl ∧ Cond.code Lib.objectInit ⟨#[0xb1]⟩ 1 none ∈ lw_tbl := by
  obtain ⟨p, hp⟩ := ix_cal_in h
  exact ⟨ix_wa_mem hp, ix_ob_i, ix_ob_c⟩
theorem ix_cpy_ok {o idx mj : Nat} (h : ix_cal o idx = some (2, mj)) : Cond.methodLink (ix_cn o) idx arraycopyName ∈ lw_tbl ∧ Cond.native arraycopyName ∈ lw_tbl ∧ Cond.static arraycopyName ∈ lw_tbl ∧ Cond.initialized "java/lang/System" ∈ lw_tbl := by
  obtain ⟨p, hp⟩ := ix_cal_in h
  exact ⟨ix_wa_mem hp, ix_cp_n, ix_cp_s, ix_cp_i⟩
theorem ix_cal_ok {o idx mj : Nat} (h : ix_cal o idx = some (0, mj)) : (mj < 286 ∧ (!Nat.beq mj 0) = true) ∧ (Cond.methodLink (ix_cn o) idx (ix_y mj) ∈ lw_tbl ∨ ∃ host, Cond.methodLinkNest (ix_cn o) idx (ix_y mj) host ∈ lw_tbl) := by
  obtain ⟨p, h1, h2, h3⟩ := ix_cal_in h
  refine ⟨⟨h1, h2⟩, ?_⟩
  rcases h3 with z | z
  · exact Or.inl (ix_wa_mem z)
  · exact Or.inr ⟨_, ix_wa_mem z⟩
theorem ix_Y {mj : Nat} (h : mj < 286) (h0 : (!Nat.beq mj 0) = true) : (((ix_hh mj = [] ∧ Cond.code (ix_y mj) (ix_by mj) (ix_ml mj) (ix_rt mj) ∈ lw_tbl) ∨ (ix_hh mj ≠ [] ∧ Cond.codeWith (ix_y mj) (ix_by mj) (ix_ml mj) (ix_rt mj) (ix_hh mj) ∈ lw_tbl)) ∧ plainFor (ix_y mj) = true ∧ ix_cn (ix_o mj) = (ix_y mj).cls) ∧
    (parseMethodDescriptor (ix_y mj).desc).map (fun d => d.parameters.length) = some (ix_np mj) ∧ ((ix_y mj).cls ≠ "java/lang/invoke/MethodHandle" ∧ (ix_y mj).cls ≠ "java/lang/invoke/VarHandle") ∧ Cond.initialized (ix_y mj).cls ∈ lw_tbl ∧ (ix_sta mj = true → Cond.static (ix_y mj) ∈ lw_tbl) ∧ (ix_sta mj = false → Cond.instanceMethod (ix_y mj) ∈ lw_tbl) ∧
    (ix_sta mj = false → ix_ini mj = false → ix_ci mj ≠ 100 → Cond.selects (ix_y mj).cls (ix_y mj) (ix_y mj) ∈ lw_tbl ∧ (ix_cls[ix_ci mj]?).map (fun q => q.1) = some (ix_y mj).cls) ∧
    (ix_ini mj = true → (ix_y mj).name = "<init>" ∧ ix_rt mj = none ∧ ix_hh mj = []) := by
  obtain ⟨a1, a2, a3, a4, a5, a6, a7, a8, a9, a10⟩ := ix_wY mj h h0
  refine ⟨⟨?_, a2, a3⟩, a4, a5, ix_wa_mem a6, fun q => ix_wa_mem (a7 q), fun q => ix_wa_mem (a8 q), fun q1 q2 q3 => ⟨ix_wa_mem (a9 q1 q2 q3).1, (a9 q1 q2 q3).2⟩, a10⟩
  rcases a1 with z | z
  · exact Or.inl ⟨z.1, ix_wa_mem z.2⟩
  · exact Or.inr ⟨z.1, ix_wa_mem z.2⟩
/-! words that stay true under warmer tables -/
def ix_gw (w : Cond) : Bool := match w with
  | .methodLinkNest _ _ _ _ => true
  | .arrayOver (.object _) => true
  | w => goodWord w
abbrev ix_Ws (args : Array Value) (s : State) : Prop := ∀ w ∈ lw_tbl, ix_gw w = true → w.before args s = true
theorem ix_warm {s U : State} {args a' : Array Value} (hW : s.WarmedH U.vm) (hts : ix_Ws args s) : ix_Ws a' U := by
  intro w hw hg
  have h := hts w hw hg
  cases w with
  | methodLinkNest a i x hh => exact va_Nw.use rfl (va_Nw.warmM hW (va_Nw.of rfl h))
  | arrayOver t =>
    cases t with
    | object C => exact va_AO.use ((va_AO.of h).moved hW.alike)
    | _ => exact word_at hW (good_of_word hg) h
  | _ => exact word_at hW (good_of_word hg) h
theorem ix_lay_gw {C : String} {T : u_T} {N : Nat} {w : Cond} (h : w ∈ u_ws C T N) : ix_gw w = true := by
  obtain ⟨k, -, rfl⟩ := List.mem_map.mp h
  unfold u_lay
  split <;> rfl
