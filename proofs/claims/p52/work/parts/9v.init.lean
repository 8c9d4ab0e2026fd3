def zv0 : zW := (fun _ _ => 0, fun _ _ => 0, fun _ _ => none)
theorem zvn0 : zNew zv0 1 := fun _ _ => ⟨fun _ => rfl, fun _ => rfl, fun _ => rfl⟩
theorem zvl0 : zLow zv0 := fun _ _ _ => rfl
def zv1 : zW := zsr (zsl zv0 1 2 1) 1 4 (some (2))
theorem zvn1 : zNew zv1 3 := (zNew_r (zNew_l (zvn0.le (m := 2) (by decide)) (by decide)) (by decide)).le (by decide)
theorem zvl1 : zLow zv1 := (zLow_r (zLow_l zvl0) (by decide))
def zv2 : zW := zsr zv1 0 0 (some 1)
theorem zvn2 : zNew zv2 3 := zNew_r (zvn1.le (by decide)) (by decide)
theorem zvl2 : zLow zv2 := zLow_r zvl1 (by decide)
def zv3 : zW := zsr zv2 0 1 (some 3)
theorem zvn3 : zNew zv3 4 := zNew_r (zvn2.le (by decide)) (by decide)
theorem zvl3 : zLow zv3 := zLow_r zvl2 (by decide)
def zv4 : zW := zsr (zsi zv3 4 0 (-1)) 4 1 (some (5))
theorem zvn4 : zNew zv4 6 := (zNew_r (zNew_i (zvn3.le (m := 5) (by decide)) (by decide)) (by decide)).le (by decide)
theorem zvl4 : zLow zv4 := (zLow_r (zLow_i zvl3) (by decide))
def zv5 : zW := zsr zv4 3 0 (some 4)
theorem zvn5 : zNew zv5 6 := zNew_r (zvn4.le (by decide)) (by decide)
theorem zvl5 : zLow zv5 := zLow_r zvl4 (by decide)
def zv6 : zW := zsr (zsi zv5 6 0 (-1)) 6 1 (some (7))
theorem zvn6 : zNew zv6 8 := (zNew_r (zNew_i (zvn5.le (m := 7) (by decide)) (by decide)) (by decide)).le (by decide)
theorem zvl6 : zLow zv6 := (zLow_r (zLow_i zvl5) (by decide))
def zv7 : zW := zsr zv6 3 1 (some 6)
theorem zvn7 : zNew zv7 8 := zNew_r (zvn6.le (by decide)) (by decide)
theorem zvl7 : zLow zv7 := zLow_r zvl6 (by decide)
def zv8 : zW := zsr (zsi zv7 8 0 (-1)) 8 1 (some (9))
theorem zvn8 : zNew zv8 10 := (zNew_r (zNew_i (zvn7.le (m := 9) (by decide)) (by decide)) (by decide)).le (by decide)
theorem zvl8 : zLow zv8 := (zLow_r (zLow_i zvl7) (by decide))
def zv9 : zW := zsr zv8 3 2 (some 8)
theorem zvn9 : zNew zv9 10 := zNew_r (zvn8.le (by decide)) (by decide)
theorem zvl9 : zLow zv9 := zLow_r zvl8 (by decide)
def zv10 : zW := zsr (zsi zv9 10 0 (-1)) 10 1 (some (11))
theorem zvn10 : zNew zv10 12 := (zNew_r (zNew_i (zvn9.le (m := 11) (by decide)) (by decide)) (by decide)).le (by decide)
theorem zvl10 : zLow zv10 := (zLow_r (zLow_i zvl9) (by decide))
def zv11 : zW := zsr zv10 3 3 (some 10)
theorem zvn11 : zNew zv11 12 := zNew_r (zvn10.le (by decide)) (by decide)
theorem zvl11 : zLow zv11 := zLow_r zvl10 (by decide)
def zv12 : zW := zsr (zsi zv11 12 0 (-1)) 12 1 (some (13))
theorem zvn12 : zNew zv12 14 := (zNew_r (zNew_i (zvn11.le (m := 13) (by decide)) (by decide)) (by decide)).le (by decide)
theorem zvl12 : zLow zv12 := (zLow_r (zLow_i zvl11) (by decide))
def zv13 : zW := zsr zv12 3 4 (some 12)
theorem zvn13 : zNew zv13 14 := zNew_r (zvn12.le (by decide)) (by decide)
theorem zvl13 : zLow zv13 := zLow_r zvl12 (by decide)
def zv14 : zW := zsr (zsi zv13 14 0 (-1)) 14 1 (some (15))
theorem zvn14 : zNew zv14 16 := (zNew_r (zNew_i (zvn13.le (m := 15) (by decide)) (by decide)) (by decide)).le (by decide)
theorem zvl14 : zLow zv14 := (zLow_r (zLow_i zvl13) (by decide))
def zv15 : zW := zsr zv14 3 5 (some 14)
theorem zvn15 : zNew zv15 16 := zNew_r (zvn14.le (by decide)) (by decide)
theorem zvl15 : zLow zv15 := zLow_r zvl14 (by decide)
def zv16 : zW := zsr zv15 0 2 (some 16)
theorem zvn16 : zNew zv16 17 := zNew_r (zvn15.le (by decide)) (by decide)
theorem zvl16 : zLow zv16 := zLow_r zvl15 (by decide)
def zv17 : zW := zsr (zsi zv16 17 0 (-1)) 17 1 (some (18))
theorem zvn17 : zNew zv17 19 := (zNew_r (zNew_i (zvn16.le (m := 18) (by decide)) (by decide)) (by decide)).le (by decide)
theorem zvl17 : zLow zv17 := (zLow_r (zLow_i zvl16) (by decide))
def zv18 : zW := zsr zv17 16 0 (some 17)
theorem zvn18 : zNew zv18 19 := zNew_r (zvn17.le (by decide)) (by decide)
theorem zvl18 : zLow zv18 := zLow_r zvl17 (by decide)
def zv19 : zW := zsr (zsi zv18 19 0 (-1)) 19 1 (some (20))
theorem zvn19 : zNew zv19 21 := (zNew_r (zNew_i (zvn18.le (m := 20) (by decide)) (by decide)) (by decide)).le (by decide)
theorem zvl19 : zLow zv19 := (zLow_r (zLow_i zvl18) (by decide))
def zv20 : zW := zsr zv19 16 1 (some 19)
theorem zvn20 : zNew zv20 21 := zNew_r (zvn19.le (by decide)) (by decide)
theorem zvl20 : zLow zv20 := zLow_r zvl19 (by decide)
def zv21 : zW := zsr (zsi zv20 21 0 (-1)) 21 1 (some (22))
theorem zvn21 : zNew zv21 23 := (zNew_r (zNew_i (zvn20.le (m := 22) (by decide)) (by decide)) (by decide)).le (by decide)
theorem zvl21 : zLow zv21 := (zLow_r (zLow_i zvl20) (by decide))
def zv22 : zW := zsr zv21 16 2 (some 21)
theorem zvn22 : zNew zv22 23 := zNew_r (zvn21.le (by decide)) (by decide)
theorem zvl22 : zLow zv22 := zLow_r zvl21 (by decide)
def zv23 : zW := zsr (zsi zv22 23 0 (-1)) 23 1 (some (24))
theorem zvn23 : zNew zv23 25 := (zNew_r (zNew_i (zvn22.le (m := 24) (by decide)) (by decide)) (by decide)).le (by decide)
theorem zvl23 : zLow zv23 := (zLow_r (zLow_i zvl22) (by decide))
def zv24 : zW := zsr zv23 16 3 (some 23)
theorem zvn24 : zNew zv24 25 := zNew_r (zvn23.le (by decide)) (by decide)
theorem zvl24 : zLow zv24 := zLow_r zvl23 (by decide)
def zv25 : zW := zsr zv24 0 3 (some 25)
theorem zvn25 : zNew zv25 26 := zNew_r (zvn24.le (by decide)) (by decide)
theorem zvl25 : zLow zv25 := zLow_r zvl24 (by decide)
def zv26 : zW := zsr (zsr (zsr (zsr (zsr (zsr (zsr (zsr zv25 26 3 (some (27))) 26 4 (some (28))) 26 5 (some (29))) 26 6 (some (30))) 26 7 (some (31))) 26 8 (some (32))) 26 9 (some (33))) 26 10 (some (34))
theorem zvn26 : zNew zv26 35 := (zNew_r (zNew_r (zNew_r (zNew_r (zNew_r (zNew_r (zNew_r (zNew_r (zvn25.le (m := 27) (by decide)) (by decide)) (by decide)) (by decide)) (by decide)) (by decide)) (by decide)) (by decide)) (by decide)).le (by decide)
theorem zvl26 : zLow zv26 := (zLow_r (zLow_r (zLow_r (zLow_r (zLow_r (zLow_r (zLow_r (zLow_r zvl25 (by decide)) (by decide)) (by decide)) (by decide)) (by decide)) (by decide)) (by decide)) (by decide))
def zv27 : zW := zsr zv26 0 4 (some 26)
theorem zvn27 : zNew zv27 35 := zNew_r (zvn26.le (by decide)) (by decide)
theorem zvl27 : zLow zv27 := zLow_r zvl26 (by decide)
def zv28 : zW := zsr (zsr (zsr (zsr (zsr (zsr (zsr (zsr zv27 35 3 (some (36))) 35 4 (some (37))) 35 5 (some (38))) 35 6 (some (39))) 35 7 (some (40))) 35 8 (some (41))) 35 9 (some (42))) 35 10 (some (43))
theorem zvn28 : zNew zv28 44 := (zNew_r (zNew_r (zNew_r (zNew_r (zNew_r (zNew_r (zNew_r (zNew_r (zvn27.le (m := 36) (by decide)) (by decide)) (by decide)) (by decide)) (by decide)) (by decide)) (by decide)) (by decide)) (by decide)).le (by decide)
theorem zvl28 : zLow zv28 := (zLow_r (zLow_r (zLow_r (zLow_r (zLow_r (zLow_r (zLow_r (zLow_r zvl27 (by decide)) (by decide)) (by decide)) (by decide)) (by decide)) (by decide)) (by decide)) (by decide))
def zv29 : zW := zsr zv28 0 5 (some 35)
theorem zvn29 : zNew zv29 44 := zNew_r (zvn28.le (by decide)) (by decide)
theorem zvl29 : zLow zv29 := zLow_r zvl28 (by decide)
def zv30 : zW := zsi zv29 44 0 (1)
theorem zvn30 : zNew zv30 45 := (zNew_i (zvn29.le (m := 45) (by decide)) (by decide)).le (by decide)
theorem zvl30 : zLow zv30 := (zLow_i zvl29)
def zv31 : zW := zsr zv30 0 6 (some 44)
theorem zvn31 : zNew zv31 45 := zNew_r (zvn30.le (by decide)) (by decide)
theorem zvl31 : zLow zv31 := zLow_r zvl30 (by decide)
def zv32 : zW := zsi zv31 45 0 (1)
theorem zvn32 : zNew zv32 46 := (zNew_i (zvn31.le (m := 46) (by decide)) (by decide)).le (by decide)
theorem zvl32 : zLow zv32 := (zLow_i zvl31)
def zv33 : zW := zsr zv32 0 7 (some 45)
theorem zvn33 : zNew zv33 46 := zNew_r (zvn32.le (by decide)) (by decide)
theorem zvl33 : zLow zv33 := zLow_r zvl32 (by decide)
def zv34 : zW := zsi zv33 0 8 (99)
theorem zvn34 : zNew zv34 46 := zNew_i (zvn33.le (by decide)) (by decide)
theorem zvl34 : zLow zv34 := zLow_i zvl33
def zv35 : zW := zsr zv34 0 9 (some 46)
theorem zvn35 : zNew zv35 47 := zNew_r (zvn34.le (by decide)) (by decide)
theorem zvl35 : zLow zv35 := zLow_r zvl34 (by decide)
def zv36 : zW := zsr (zsr (zsr zv35 47 0 (some (48))) 47 1 (some (49))) 47 2 (some (50))
theorem zvn36 : zNew zv36 51 := (zNew_r (zNew_r (zNew_r (zvn35.le (m := 48) (by decide)) (by decide)) (by decide)) (by decide)).le (by decide)
theorem zvl36 : zLow zv36 := (zLow_r (zLow_r (zLow_r zvl35 (by decide)) (by decide)) (by decide))
def zv37 : zW := zsr zv36 46 0 (some 47)
theorem zvn37 : zNew zv37 51 := zNew_r (zvn36.le (by decide)) (by decide)
theorem zvl37 : zLow zv37 := zLow_r zvl36 (by decide)
def zv38 : zW := zsr (zsr (zsr zv37 51 0 (some (52))) 51 1 (some (53))) 51 2 (some (54))
theorem zvn38 : zNew zv38 55 := (zNew_r (zNew_r (zNew_r (zvn37.le (m := 52) (by decide)) (by decide)) (by decide)) (by decide)).le (by decide)
theorem zvl38 : zLow zv38 := (zLow_r (zLow_r (zLow_r zvl37 (by decide)) (by decide)) (by decide))
def zv39 : zW := zsr zv38 46 1 (some 51)
theorem zvn39 : zNew zv39 55 := zNew_r (zvn38.le (by decide)) (by decide)
theorem zvl39 : zLow zv39 := zLow_r zvl38 (by decide)
def zv40 : zW := zsr (zsr (zsr zv39 55 0 (some (56))) 55 1 (some (57))) 55 2 (some (58))
theorem zvn40 : zNew zv40 59 := (zNew_r (zNew_r (zNew_r (zvn39.le (m := 56) (by decide)) (by decide)) (by decide)) (by decide)).le (by decide)
theorem zvl40 : zLow zv40 := (zLow_r (zLow_r (zLow_r zvl39 (by decide)) (by decide)) (by decide))
def zv41 : zW := zsr zv40 46 2 (some 55)
theorem zvn41 : zNew zv41 59 := zNew_r (zvn40.le (by decide)) (by decide)
theorem zvl41 : zLow zv41 := zLow_r zvl40 (by decide)
def zv42 : zW := zsr (zsr (zsr zv41 59 0 (some (60))) 59 1 (some (61))) 59 2 (some (62))
theorem zvn42 : zNew zv42 63 := (zNew_r (zNew_r (zNew_r (zvn41.le (m := 60) (by decide)) (by decide)) (by decide)) (by decide)).le (by decide)
theorem zvl42 : zLow zv42 := (zLow_r (zLow_r (zLow_r zvl41 (by decide)) (by decide)) (by decide))
def zv43 : zW := zsr zv42 46 3 (some 59)
theorem zvn43 : zNew zv43 63 := zNew_r (zvn42.le (by decide)) (by decide)
theorem zvl43 : zLow zv43 := zLow_r zvl42 (by decide)
def zv44 : zW := zsr (zsr (zsr zv43 63 0 (some (64))) 63 1 (some (65))) 63 2 (some (66))
theorem zvn44 : zNew zv44 67 := (zNew_r (zNew_r (zNew_r (zvn43.le (m := 64) (by decide)) (by decide)) (by decide)) (by decide)).le (by decide)
theorem zvl44 : zLow zv44 := (zLow_r (zLow_r (zLow_r zvl43 (by decide)) (by decide)) (by decide))
def zv45 : zW := zsr zv44 46 4 (some 63)
theorem zvn45 : zNew zv45 67 := zNew_r (zvn44.le (by decide)) (by decide)
theorem zvl45 : zLow zv45 := zLow_r zvl44 (by decide)
def zv46 : zW := zsr (zsr (zsr zv45 67 0 (some (68))) 67 1 (some (69))) 67 2 (some (70))
theorem zvn46 : zNew zv46 71 := (zNew_r (zNew_r (zNew_r (zvn45.le (m := 68) (by decide)) (by decide)) (by decide)) (by decide)).le (by decide)
theorem zvl46 : zLow zv46 := (zLow_r (zLow_r (zLow_r zvl45 (by decide)) (by decide)) (by decide))
def zv47 : zW := zsr zv46 46 5 (some 67)
theorem zvn47 : zNew zv47 71 := zNew_r (zvn46.le (by decide)) (by decide)
theorem zvl47 : zLow zv47 := zLow_r zvl46 (by decide)
def zv48 : zW := zsr (zsr (zsr zv47 71 0 (some (72))) 71 1 (some (73))) 71 2 (some (74))
theorem zvn48 : zNew zv48 75 := (zNew_r (zNew_r (zNew_r (zvn47.le (m := 72) (by decide)) (by decide)) (by decide)) (by decide)).le (by decide)
theorem zvl48 : zLow zv48 := (zLow_r (zLow_r (zLow_r zvl47 (by decide)) (by decide)) (by decide))
def zv49 : zW := zsr zv48 46 6 (some 71)
theorem zvn49 : zNew zv49 75 := zNew_r (zvn48.le (by decide)) (by decide)
theorem zvl49 : zLow zv49 := zLow_r zvl48 (by decide)
def zv50 : zW := zsr (zsr (zsr zv49 75 0 (some (76))) 75 1 (some (77))) 75 2 (some (78))
theorem zvn50 : zNew zv50 79 := (zNew_r (zNew_r (zNew_r (zvn49.le (m := 76) (by decide)) (by decide)) (by decide)) (by decide)).le (by decide)
theorem zvl50 : zLow zv50 := (zLow_r (zLow_r (zLow_r zvl49 (by decide)) (by decide)) (by decide))
def zv51 : zW := zsr zv50 46 7 (some 75)
theorem zvn51 : zNew zv51 79 := zNew_r (zvn50.le (by decide)) (by decide)
theorem zvl51 : zLow zv51 := zLow_r zvl50 (by decide)
def zv52 : zW := zsr (zsr (zsr zv51 79 0 (some (80))) 79 1 (some (81))) 79 2 (some (82))
theorem zvn52 : zNew zv52 83 := (zNew_r (zNew_r (zNew_r (zvn51.le (m := 80) (by decide)) (by decide)) (by decide)) (by decide)).le (by decide)
theorem zvl52 : zLow zv52 := (zLow_r (zLow_r (zLow_r zvl51 (by decide)) (by decide)) (by decide))
def zv53 : zW := zsr zv52 46 8 (some 79)
theorem zvn53 : zNew zv53 83 := zNew_r (zvn52.le (by decide)) (by decide)
theorem zvl53 : zLow zv53 := zLow_r zvl52 (by decide)
def zv54 : zW := zsr (zsr (zsr zv53 83 0 (some (84))) 83 1 (some (85))) 83 2 (some (86))
theorem zvn54 : zNew zv54 87 := (zNew_r (zNew_r (zNew_r (zvn53.le (m := 84) (by decide)) (by decide)) (by decide)) (by decide)).le (by decide)
theorem zvl54 : zLow zv54 := (zLow_r (zLow_r (zLow_r zvl53 (by decide)) (by decide)) (by decide))
def zv55 : zW := zsr zv54 46 9 (some 83)
theorem zvn55 : zNew zv55 87 := zNew_r (zvn54.le (by decide)) (by decide)
theorem zvl55 : zLow zv55 := zLow_r zvl54 (by decide)
def zv56 : zW := zsr (zsr (zsr zv55 87 0 (some (88))) 87 1 (some (89))) 87 2 (some (90))
theorem zvn56 : zNew zv56 91 := (zNew_r (zNew_r (zNew_r (zvn55.le (m := 88) (by decide)) (by decide)) (by decide)) (by decide)).le (by decide)
theorem zvl56 : zLow zv56 := (zLow_r (zLow_r (zLow_r zvl55 (by decide)) (by decide)) (by decide))
def zv57 : zW := zsr zv56 46 10 (some 87)
theorem zvn57 : zNew zv57 91 := zNew_r (zvn56.le (by decide)) (by decide)
theorem zvl57 : zLow zv57 := zLow_r zvl56 (by decide)
def zv58 : zW := zsr (zsr (zsr zv57 91 0 (some (92))) 91 1 (some (93))) 91 2 (some (94))
theorem zvn58 : zNew zv58 95 := (zNew_r (zNew_r (zNew_r (zvn57.le (m := 92) (by decide)) (by decide)) (by decide)) (by decide)).le (by decide)
theorem zvl58 : zLow zv58 := (zLow_r (zLow_r (zLow_r zvl57 (by decide)) (by decide)) (by decide))
def zv59 : zW := zsr zv58 46 11 (some 91)
theorem zvn59 : zNew zv59 95 := zNew_r (zvn58.le (by decide)) (by decide)
theorem zvl59 : zLow zv59 := zLow_r zvl58 (by decide)
def zv60 : zW := zsr zv59 0 11 (some 95)
theorem zvn60 : zNew zv60 96 := zNew_r (zvn59.le (by decide)) (by decide)
theorem zvl60 : zLow zv60 := zLow_r zvl59 (by decide)
def zv61 : zW := zsr (zsr zv60 96 0 (some (97))) 96 1 (some (98))
theorem zvn61 : zNew zv61 99 := (zNew_r (zNew_r (zvn60.le (m := 97) (by decide)) (by decide)) (by decide)).le (by decide)
theorem zvl61 : zLow zv61 := (zLow_r (zLow_r zvl60 (by decide)) (by decide))
def zv62 : zW := zsr zv61 95 0 (some 96)
theorem zvn62 : zNew zv62 99 := zNew_r (zvn61.le (by decide)) (by decide)
theorem zvl62 : zLow zv62 := zLow_r zvl61 (by decide)
def zv63 : zW := zsr (zsr zv62 99 0 (some (100))) 99 1 (some (101))
theorem zvn63 : zNew zv63 102 := (zNew_r (zNew_r (zvn62.le (m := 100) (by decide)) (by decide)) (by decide)).le (by decide)
theorem zvl63 : zLow zv63 := (zLow_r (zLow_r zvl62 (by decide)) (by decide))
def zv64 : zW := zsr zv63 95 1 (some 99)
theorem zvn64 : zNew zv64 102 := zNew_r (zvn63.le (by decide)) (by decide)
theorem zvl64 : zLow zv64 := zLow_r zvl63 (by decide)
def zv65 : zW := zsr (zsr zv64 102 0 (some (103))) 102 1 (some (104))
theorem zvn65 : zNew zv65 105 := (zNew_r (zNew_r (zvn64.le (m := 103) (by decide)) (by decide)) (by decide)).le (by decide)
theorem zvl65 : zLow zv65 := (zLow_r (zLow_r zvl64 (by decide)) (by decide))
def zv66 : zW := zsr zv65 95 2 (some 102)
theorem zvn66 : zNew zv66 105 := zNew_r (zvn65.le (by decide)) (by decide)
theorem zvl66 : zLow zv66 := zLow_r zvl65 (by decide)
def zv67 : zW := zsr (zsr zv66 105 0 (some (106))) 105 1 (some (107))
theorem zvn67 : zNew zv67 108 := (zNew_r (zNew_r (zvn66.le (m := 106) (by decide)) (by decide)) (by decide)).le (by decide)
theorem zvl67 : zLow zv67 := (zLow_r (zLow_r zvl66 (by decide)) (by decide))
def zv68 : zW := zsr zv67 95 3 (some 105)
theorem zvn68 : zNew zv68 108 := zNew_r (zvn67.le (by decide)) (by decide)
theorem zvl68 : zLow zv68 := zLow_r zvl67 (by decide)
def zv69 : zW := zsr (zsr zv68 108 0 (some (109))) 108 1 (some (110))
theorem zvn69 : zNew zv69 111 := (zNew_r (zNew_r (zvn68.le (m := 109) (by decide)) (by decide)) (by decide)).le (by decide)
theorem zvl69 : zLow zv69 := (zLow_r (zLow_r zvl68 (by decide)) (by decide))
def zv70 : zW := zsr zv69 95 4 (some 108)
theorem zvn70 : zNew zv70 111 := zNew_r (zvn69.le (by decide)) (by decide)
theorem zvl70 : zLow zv70 := zLow_r zvl69 (by decide)
def zv71 : zW := zsr (zsr zv70 111 0 (some (112))) 111 1 (some (113))
theorem zvn71 : zNew zv71 114 := (zNew_r (zNew_r (zvn70.le (m := 112) (by decide)) (by decide)) (by decide)).le (by decide)
theorem zvl71 : zLow zv71 := (zLow_r (zLow_r zvl70 (by decide)) (by decide))
def zv72 : zW := zsr zv71 95 5 (some 111)
theorem zvn72 : zNew zv72 114 := zNew_r (zvn71.le (by decide)) (by decide)
theorem zvl72 : zLow zv72 := zLow_r zvl71 (by decide)
def zv73 : zW := zsr (zsr (zsr (zsr (zsr (zsr (zsr (zsr (zmw zv72 (115) 8) 114 1 (some (115))) 114 3 (some (124))) 114 4 (some (125))) 114 5 (some (126))) 114 6 (some (127))) 114 7 (some (128))) 114 8 (some (129))) 114 10 (some (130))
theorem zvn73 : zNew zv73 131 := (zNew_r (zNew_r (zNew_r (zNew_r (zNew_r (zNew_r (zNew_r (zNew_r (zNew_m (m := 124) ((zvn72.le (m := 115) (by decide)).le (m := 115) (by decide)) (by decide)) (by decide)) (by decide)) (by decide)) (by decide)) (by decide)) (by decide)) (by decide)) (by decide)).le (by decide)
theorem zvl73 : zLow zv73 := (zLow_r (zLow_r (zLow_r (zLow_r (zLow_r (zLow_r (zLow_r (zLow_r (zLow_m zvl72 (by decide)) (by decide)) (by decide)) (by decide)) (by decide)) (by decide)) (by decide)) (by decide)) (by decide))
def zv74 : zW := zsr zv73 0 12 (some 114)
theorem zvn74 : zNew zv74 131 := zNew_r (zvn73.le (by decide)) (by decide)
theorem zvl74 : zLow zv74 := zLow_r zvl73 (by decide)
def zv75 : zW := zsr (zsr (zsr (zsr (zsr (zsr (zsr (zsr (zsr (zsr (zsr (zsr (zsr (zsr (zsr (zsi zv74 131 1 (1)) 131 2 (some (132))) 131 3 (some (133))) 131 4 (some (134))) 131 5 (some (135))) 131 6 (some (136))) 131 7 (some (137))) 131 8 (some (138))) 131 9 (some (139))) 131 10 (some (140))) 131 11 (some (141))) 131 12 (some (142))) 131 13 (some (143))) 131 14 (some (144))) 131 15 (some (145))) 131 16 (some (146))
theorem zvn75 : zNew zv75 147 := (zNew_r (zNew_r (zNew_r (zNew_r (zNew_r (zNew_r (zNew_r (zNew_r (zNew_r (zNew_r (zNew_r (zNew_r (zNew_r (zNew_r (zNew_r (zNew_i (zvn74.le (m := 132) (by decide)) (by decide)) (by decide)) (by decide)) (by decide)) (by decide)) (by decide)) (by decide)) (by decide)) (by decide)) (by decide)) (by decide)) (by decide)) (by decide)) (by decide)) (by decide)) (by decide)).le (by decide)
theorem zvl75 : zLow zv75 := (zLow_r (zLow_r (zLow_r (zLow_r (zLow_r (zLow_r (zLow_r (zLow_r (zLow_r (zLow_r (zLow_r (zLow_r (zLow_r (zLow_r (zLow_r (zLow_i zvl74) (by decide)) (by decide)) (by decide)) (by decide)) (by decide)) (by decide)) (by decide)) (by decide)) (by decide)) (by decide)) (by decide)) (by decide)) (by decide)) (by decide)) (by decide))
def zv76 : zW := zsr zv75 0 13 (some 131)
theorem zvn76 : zNew zv76 147 := zNew_r (zvn75.le (by decide)) (by decide)
theorem zvl76 : zLow zv76 := zLow_r zvl75 (by decide)
def zv77 : zW := zsr (zsr (zsr (zmw (zsr (zsr (zsr (zsr zv76 147 0 (some (148))) 147 1 (some (149))) 147 4 (some (150))) 147 5 (some (151))) (152) 8) 147 6 (some (152))) 147 7 (some (161))) 147 8 (some (162))
theorem zvn77 : zNew zv77 163 := (zNew_r (zNew_r (zNew_r (zNew_m (m := 161) ((zNew_r (zNew_r (zNew_r (zNew_r (zvn76.le (m := 148) (by decide)) (by decide)) (by decide)) (by decide)) (by decide)).le (m := 152) (by decide)) (by decide)) (by decide)) (by decide)) (by decide)).le (by decide)
theorem zvl77 : zLow zv77 := (zLow_r (zLow_r (zLow_r (zLow_m (zLow_r (zLow_r (zLow_r (zLow_r zvl76 (by decide)) (by decide)) (by decide)) (by decide)) (by decide)) (by decide)) (by decide)) (by decide))
def zv78 : zW := zsr zv77 0 14 (some 147)
theorem zvn78 : zNew zv78 163 := zNew_r (zvn77.le (by decide)) (by decide)
theorem zvl78 : zLow zv78 := zLow_r zvl77 (by decide)
def zv79 : zW := zsr zv78 0 15 (some 163)
theorem zvn79 : zNew zv79 164 := zNew_r (zvn78.le (by decide)) (by decide)
theorem zvl79 : zLow zv79 := zLow_r zvl78 (by decide)
def zv80 : zW := zsr zv79 0 16 (some 164)
theorem zvn80 : zNew zv80 165 := zNew_r (zvn79.le (by decide)) (by decide)
theorem zvl80 : zLow zv80 := zLow_r zvl79 (by decide)
def zv81 : zW := zsr zv80 0 17 (some 165)
theorem zvn81 : zNew zv81 166 := zNew_r (zvn80.le (by decide)) (by decide)
theorem zvl81 : zLow zv81 := zLow_r zvl80 (by decide)
set_option maxRecDepth 20000 in
theorem s_X11_init {G : zG} : zC G mX11_init [.ref 0] 1 zv0 166 (fun v w1 => v = none ∧ w1 = zv81) := by
  refine zC_of (M := mX11_init) (lo := [_, .null]) kcX11_init (Nat.le_of_ble_eq_true rfl) rfl (fun X hX hE => ?_)
  refine zk_aload_n hX dX11_init_0 rfl ?_
  refine zk_objInit hX dX11_init_1 mlX11_3 obI obC (by decide) (by decide) ?_
  refine zk_aload_n hX dX11_init_4 rfl ?_
  refine zk_new hX dX11_init_5 nwX11_9 (by decide) (by decide +kernel) (zvn0 1 (by decide)) ⟨by decide, by decide⟩ ?_
  refine zk_nr2 (n' := 2) (cells' := 1) (slots' := 5) (w' := zv0) (st' := [.ref 1, .ref 0]) rfl rfl rfl rfl rfl ?_
  refine zk_dup hX dX11_init_8 rfl ?_
  refine zk_callIN (M' := mX9_init) hX dX11_init_9 kcX9_init mnX11_11 imX9_init ⟨rfl, rfl⟩ rfl (s_X9_init 1 _ (by decide) (by decide +kernel) (by decide +kernel) (zvn0.le (by decide))) rfl rfl (Nat.le_of_ble_eq_true rfl) ⟨by decide, by decide⟩ (fun v w1 hq => ?_)
  obtain ⟨rfl, rfl⟩ := hq
  refine zk_nr2 (n' := 3) (cells' := 2) (slots' := 11) (w' := zv1) (st' := [.ref 1, .ref 0]) rfl rfl rfl rfl rfl ?_
  refine zk_putR hX dX11_init_12 plX11_12 (fun _ => rfl) (by decide) (by decide +kernel) rfl rfl ?_
  refine zk_nr2 (n' := 3) (cells' := 2) (slots' := 11) (w' := zv2) (st' := []) rfl rfl rfl rfl rfl ?_
  refine zk_aload_n hX dX11_init_15 rfl ?_
  refine zk_bipush (v := 6) hX dX11_init_16 (by decide) ?_
  refine zk_anew (t := 4) (N := 6) hX dX11_init_18 clX11_16 hX.2.2.2.2.2.1.2.1.2.2.2.1.1 rfl (by decide) (by decide) (by decide) (by decide) (by decide +kernel) (zvn2 3 (by decide)) ⟨by decide, by decide⟩ ?_
  refine zk_nr2 (n' := 4) (cells' := 3) (slots' := 17) (w' := zv2) (st' := [.ref 3, .ref 0]) rfl rfl rfl rfl rfl ?_
  refine zk_putR hX dX11_init_21 plX11_18 (fun _ => rfl) (by decide) (by decide +kernel) rfl rfl ?_
  refine zk_nr2 (n' := 4) (cells' := 3) (slots' := 17) (w' := zv3) (st' := []) rfl rfl rfl rfl rfl ?_
  refine zk_iconst (v := 0) hX dX11_init_24 (by decide) ?_
  refine zk_istore_n (lo' := [.ref 0, .int (0)]) hX dX11_init_25 (Nat.le_of_ble_eq_true rfl) rfl rfl ?_
  refine zk_iload_n hX dX11_init_26 rfl ?_
  refine zk_bipush (v := 6) hX dX11_init_27 (by decide) ?_
  refine zk_icmp_ge (tgt := 53) hX dX11_init_29 (by decide) (fun h => absurd h (by decide)) (fun _ => ?_)
  refine zk_aload_n hX dX11_init_32 rfl ?_
  refine zk_getR (a := 3) hX dX11_init_33 flX11_18 (by decide) (by decide +kernel) rfl ?_
  refine zk_iload_n hX dX11_init_36 rfl ?_
  refine zk_new hX dX11_init_37 nwX11_16 (by decide) (by decide +kernel) (zvn3 4 (by decide)) ⟨by decide, by decide⟩ ?_
  refine zk_nr2 (n' := 5) (cells' := 4) (slots' := 19) (w' := zv3) (st' := [.ref 4, .int (0), .ref 3]) rfl rfl rfl rfl rfl ?_
  refine zk_dup hX dX11_init_40 rfl ?_
  refine zk_bipush (v := 40) hX dX11_init_41 (by decide) ?_
  refine zk_callI (M' := mX8_init) hX dX11_init_43 kcX8_init mlX11_22 imX8_init ⟨rfl, rfl⟩ rfl (s_X8_init 4 _ (by decide) (by decide +kernel) (by decide +kernel) (zvn3.le (by decide))) rfl rfl (Nat.le_of_ble_eq_true rfl) ⟨by decide, by decide⟩ (fun v w1 hq => ?_)
  obtain ⟨rfl, rfl⟩ := hq
  refine zk_nr2 (n' := 6) (cells' := 5) (slots' := 59) (w' := zv4) (st' := [.ref 4, .int (0), .ref 3]) rfl rfl rfl rfl rfl ?_
  refine zk_aast (t := 4) (L := 6) (c := 8) hX dX11_init_46 (by decide) (by decide) (by decide +kernel) (by decide +kernel) rfl rfl (show ¬ ((0 : Int32) < 0 ∨ 6 ≤ (0 : Int32).toNatClampNeg) by decide) ?_
  refine zk_nr2 (n' := 6) (cells' := 5) (slots' := 59) (w' := zv5) (st' := []) rfl rfl rfl rfl rfl ?_
  refine zk_iinc (v := 1) (lo' := [.ref 0, .int (1)]) hX dX11_init_47 rfl (by decide) (Nat.le_of_ble_eq_true rfl) rfl rfl ?_
  refine zk_goto (tgt := 26) hX dX11_init_50 (by decide) ?_
  refine zk_iload_n hX dX11_init_26 rfl ?_
  refine zk_bipush (v := 6) hX dX11_init_27 (by decide) ?_
  refine zk_icmp_ge (tgt := 53) hX dX11_init_29 (by decide) (fun h => absurd h (by decide)) (fun _ => ?_)
  refine zk_aload_n hX dX11_init_32 rfl ?_
  refine zk_getR (a := 3) hX dX11_init_33 flX11_18 (by decide) (by decide +kernel) rfl ?_
  refine zk_iload_n hX dX11_init_36 rfl ?_
  refine zk_new hX dX11_init_37 nwX11_16 (by decide) (by decide +kernel) (zvn5 6 (by decide)) ⟨by decide, by decide⟩ ?_
  refine zk_nr2 (n' := 7) (cells' := 6) (slots' := 61) (w' := zv5) (st' := [.ref 6, .int (1), .ref 3]) rfl rfl rfl rfl rfl ?_
  refine zk_dup hX dX11_init_40 rfl ?_
  refine zk_bipush (v := 40) hX dX11_init_41 (by decide) ?_
  refine zk_callI (M' := mX8_init) hX dX11_init_43 kcX8_init mlX11_22 imX8_init ⟨rfl, rfl⟩ rfl (s_X8_init 6 _ (by decide) (by decide +kernel) (by decide +kernel) (zvn5.le (by decide))) rfl rfl (Nat.le_of_ble_eq_true rfl) ⟨by decide, by decide⟩ (fun v w1 hq => ?_)
  obtain ⟨rfl, rfl⟩ := hq
  refine zk_nr2 (n' := 8) (cells' := 7) (slots' := 101) (w' := zv6) (st' := [.ref 6, .int (1), .ref 3]) rfl rfl rfl rfl rfl ?_
  refine zk_aast (t := 4) (L := 6) (c := 8) hX dX11_init_46 (by decide) (by decide) (by decide +kernel) (by decide +kernel) rfl rfl (show ¬ ((1 : Int32) < 0 ∨ 6 ≤ (1 : Int32).toNatClampNeg) by decide) ?_
  refine zk_nr2 (n' := 8) (cells' := 7) (slots' := 101) (w' := zv7) (st' := []) rfl rfl rfl rfl rfl ?_
  refine zk_iinc (v := 2) (lo' := [.ref 0, .int (2)]) hX dX11_init_47 rfl (by decide) (Nat.le_of_ble_eq_true rfl) rfl rfl ?_
  refine zk_goto (tgt := 26) hX dX11_init_50 (by decide) ?_
  refine zk_iload_n hX dX11_init_26 rfl ?_
  refine zk_bipush (v := 6) hX dX11_init_27 (by decide) ?_
  refine zk_icmp_ge (tgt := 53) hX dX11_init_29 (by decide) (fun h => absurd h (by decide)) (fun _ => ?_)
  refine zk_aload_n hX dX11_init_32 rfl ?_
  refine zk_getR (a := 3) hX dX11_init_33 flX11_18 (by decide) (by decide +kernel) rfl ?_
  refine zk_iload_n hX dX11_init_36 rfl ?_
  refine zk_new hX dX11_init_37 nwX11_16 (by decide) (by decide +kernel) (zvn7 8 (by decide)) ⟨by decide, by decide⟩ ?_
  refine zk_nr2 (n' := 9) (cells' := 8) (slots' := 103) (w' := zv7) (st' := [.ref 8, .int (2), .ref 3]) rfl rfl rfl rfl rfl ?_
  refine zk_dup hX dX11_init_40 rfl ?_
  refine zk_bipush (v := 40) hX dX11_init_41 (by decide) ?_
  refine zk_callI (M' := mX8_init) hX dX11_init_43 kcX8_init mlX11_22 imX8_init ⟨rfl, rfl⟩ rfl (s_X8_init 8 _ (by decide) (by decide +kernel) (by decide +kernel) (zvn7.le (by decide))) rfl rfl (Nat.le_of_ble_eq_true rfl) ⟨by decide, by decide⟩ (fun v w1 hq => ?_)
  obtain ⟨rfl, rfl⟩ := hq
  refine zk_nr2 (n' := 10) (cells' := 9) (slots' := 143) (w' := zv8) (st' := [.ref 8, .int (2), .ref 3]) rfl rfl rfl rfl rfl ?_
  refine zk_aast (t := 4) (L := 6) (c := 8) hX dX11_init_46 (by decide) (by decide) (by decide +kernel) (by decide +kernel) rfl rfl (show ¬ ((2 : Int32) < 0 ∨ 6 ≤ (2 : Int32).toNatClampNeg) by decide) ?_
  refine zk_nr2 (n' := 10) (cells' := 9) (slots' := 143) (w' := zv9) (st' := []) rfl rfl rfl rfl rfl ?_
  refine zk_iinc (v := 3) (lo' := [.ref 0, .int (3)]) hX dX11_init_47 rfl (by decide) (Nat.le_of_ble_eq_true rfl) rfl rfl ?_
  refine zk_goto (tgt := 26) hX dX11_init_50 (by decide) ?_
  refine zk_iload_n hX dX11_init_26 rfl ?_
  refine zk_bipush (v := 6) hX dX11_init_27 (by decide) ?_
  refine zk_icmp_ge (tgt := 53) hX dX11_init_29 (by decide) (fun h => absurd h (by decide)) (fun _ => ?_)
  refine zk_aload_n hX dX11_init_32 rfl ?_
  refine zk_getR (a := 3) hX dX11_init_33 flX11_18 (by decide) (by decide +kernel) rfl ?_
  refine zk_iload_n hX dX11_init_36 rfl ?_
  refine zk_new hX dX11_init_37 nwX11_16 (by decide) (by decide +kernel) (zvn9 10 (by decide)) ⟨by decide, by decide⟩ ?_
  refine zk_nr2 (n' := 11) (cells' := 10) (slots' := 145) (w' := zv9) (st' := [.ref 10, .int (3), .ref 3]) rfl rfl rfl rfl rfl ?_
  refine zk_dup hX dX11_init_40 rfl ?_
  refine zk_bipush (v := 40) hX dX11_init_41 (by decide) ?_
  refine zk_callI (M' := mX8_init) hX dX11_init_43 kcX8_init mlX11_22 imX8_init ⟨rfl, rfl⟩ rfl (s_X8_init 10 _ (by decide) (by decide +kernel) (by decide +kernel) (zvn9.le (by decide))) rfl rfl (Nat.le_of_ble_eq_true rfl) ⟨by decide, by decide⟩ (fun v w1 hq => ?_)
  obtain ⟨rfl, rfl⟩ := hq
  refine zk_nr2 (n' := 12) (cells' := 11) (slots' := 185) (w' := zv10) (st' := [.ref 10, .int (3), .ref 3]) rfl rfl rfl rfl rfl ?_
  refine zk_aast (t := 4) (L := 6) (c := 8) hX dX11_init_46 (by decide) (by decide) (by decide +kernel) (by decide +kernel) rfl rfl (show ¬ ((3 : Int32) < 0 ∨ 6 ≤ (3 : Int32).toNatClampNeg) by decide) ?_
  refine zk_nr2 (n' := 12) (cells' := 11) (slots' := 185) (w' := zv11) (st' := []) rfl rfl rfl rfl rfl ?_
  refine zk_iinc (v := 4) (lo' := [.ref 0, .int (4)]) hX dX11_init_47 rfl (by decide) (Nat.le_of_ble_eq_true rfl) rfl rfl ?_
  refine zk_goto (tgt := 26) hX dX11_init_50 (by decide) ?_
  refine zk_iload_n hX dX11_init_26 rfl ?_
  refine zk_bipush (v := 6) hX dX11_init_27 (by decide) ?_
  refine zk_icmp_ge (tgt := 53) hX dX11_init_29 (by decide) (fun h => absurd h (by decide)) (fun _ => ?_)
  refine zk_aload_n hX dX11_init_32 rfl ?_
  refine zk_getR (a := 3) hX dX11_init_33 flX11_18 (by decide) (by decide +kernel) rfl ?_
  refine zk_iload_n hX dX11_init_36 rfl ?_
  refine zk_new hX dX11_init_37 nwX11_16 (by decide) (by decide +kernel) (zvn11 12 (by decide)) ⟨by decide, by decide⟩ ?_
  refine zk_nr2 (n' := 13) (cells' := 12) (slots' := 187) (w' := zv11) (st' := [.ref 12, .int (4), .ref 3]) rfl rfl rfl rfl rfl ?_
  refine zk_dup hX dX11_init_40 rfl ?_
  refine zk_bipush (v := 40) hX dX11_init_41 (by decide) ?_
  refine zk_callI (M' := mX8_init) hX dX11_init_43 kcX8_init mlX11_22 imX8_init ⟨rfl, rfl⟩ rfl (s_X8_init 12 _ (by decide) (by decide +kernel) (by decide +kernel) (zvn11.le (by decide))) rfl rfl (Nat.le_of_ble_eq_true rfl) ⟨by decide, by decide⟩ (fun v w1 hq => ?_)
  obtain ⟨rfl, rfl⟩ := hq
  refine zk_nr2 (n' := 14) (cells' := 13) (slots' := 227) (w' := zv12) (st' := [.ref 12, .int (4), .ref 3]) rfl rfl rfl rfl rfl ?_
  refine zk_aast (t := 4) (L := 6) (c := 8) hX dX11_init_46 (by decide) (by decide) (by decide +kernel) (by decide +kernel) rfl rfl (show ¬ ((4 : Int32) < 0 ∨ 6 ≤ (4 : Int32).toNatClampNeg) by decide) ?_
  refine zk_nr2 (n' := 14) (cells' := 13) (slots' := 227) (w' := zv13) (st' := []) rfl rfl rfl rfl rfl ?_
  refine zk_iinc (v := 5) (lo' := [.ref 0, .int (5)]) hX dX11_init_47 rfl (by decide) (Nat.le_of_ble_eq_true rfl) rfl rfl ?_
  refine zk_goto (tgt := 26) hX dX11_init_50 (by decide) ?_
  refine zk_iload_n hX dX11_init_26 rfl ?_
  refine zk_bipush (v := 6) hX dX11_init_27 (by decide) ?_
  refine zk_icmp_ge (tgt := 53) hX dX11_init_29 (by decide) (fun h => absurd h (by decide)) (fun _ => ?_)
  refine zk_aload_n hX dX11_init_32 rfl ?_
  refine zk_getR (a := 3) hX dX11_init_33 flX11_18 (by decide) (by decide +kernel) rfl ?_
  refine zk_iload_n hX dX11_init_36 rfl ?_
  refine zk_new hX dX11_init_37 nwX11_16 (by decide) (by decide +kernel) (zvn13 14 (by decide)) ⟨by decide, by decide⟩ ?_
  refine zk_nr2 (n' := 15) (cells' := 14) (slots' := 229) (w' := zv13) (st' := [.ref 14, .int (5), .ref 3]) rfl rfl rfl rfl rfl ?_
  refine zk_dup hX dX11_init_40 rfl ?_
  refine zk_bipush (v := 40) hX dX11_init_41 (by decide) ?_
  refine zk_callI (M' := mX8_init) hX dX11_init_43 kcX8_init mlX11_22 imX8_init ⟨rfl, rfl⟩ rfl (s_X8_init 14 _ (by decide) (by decide +kernel) (by decide +kernel) (zvn13.le (by decide))) rfl rfl (Nat.le_of_ble_eq_true rfl) ⟨by decide, by decide⟩ (fun v w1 hq => ?_)
  obtain ⟨rfl, rfl⟩ := hq
  refine zk_nr2 (n' := 16) (cells' := 15) (slots' := 269) (w' := zv14) (st' := [.ref 14, .int (5), .ref 3]) rfl rfl rfl rfl rfl ?_
  refine zk_aast (t := 4) (L := 6) (c := 8) hX dX11_init_46 (by decide) (by decide) (by decide +kernel) (by decide +kernel) rfl rfl (show ¬ ((5 : Int32) < 0 ∨ 6 ≤ (5 : Int32).toNatClampNeg) by decide) ?_
  refine zk_nr2 (n' := 16) (cells' := 15) (slots' := 269) (w' := zv15) (st' := []) rfl rfl rfl rfl rfl ?_
  refine zk_iinc (v := 6) (lo' := [.ref 0, .int (6)]) hX dX11_init_47 rfl (by decide) (Nat.le_of_ble_eq_true rfl) rfl rfl ?_
  refine zk_goto (tgt := 26) hX dX11_init_50 (by decide) ?_
  refine zk_iload_n hX dX11_init_26 rfl ?_
  refine zk_bipush (v := 6) hX dX11_init_27 (by decide) ?_
  refine zk_icmp_ge (tgt := 53) hX dX11_init_29 (by decide) (fun _ => ?_) (fun h => absurd (by decide) h)
  refine zk_aload_n hX dX11_init_53 rfl ?_
  refine zk_iconst (v := 4) hX dX11_init_54 (by decide) ?_
  refine zk_anew (t := 4) (N := 4) hX dX11_init_55 clX11_16 hX.2.2.2.2.2.1.2.1.2.2.2.1.1 rfl (by decide) (by decide) (by decide) (by decide) (by decide +kernel) (zvn15 16 (by decide)) ⟨by decide, by decide⟩ ?_
  refine zk_nr2 (n' := 17) (cells' := 16) (slots' := 273) (w' := zv15) (st' := [.ref 16, .ref 0]) rfl rfl rfl rfl rfl ?_
  refine zk_putR hX dX11_init_58 plX11_25 (fun _ => rfl) (by decide) (by decide +kernel) rfl rfl ?_
  refine zk_nr2 (n' := 17) (cells' := 16) (slots' := 273) (w' := zv16) (st' := []) rfl rfl rfl rfl rfl ?_
  refine zk_iconst (v := 0) hX dX11_init_61 (by decide) ?_
  refine zk_istore_n (lo' := [.ref 0, .int (0)]) hX dX11_init_62 (Nat.le_of_ble_eq_true rfl) rfl rfl ?_
  refine zk_iload_n hX dX11_init_63 rfl ?_
  refine zk_iconst (v := 4) hX dX11_init_64 (by decide) ?_
  refine zk_icmp_ge (tgt := 89) hX dX11_init_65 (by decide) (fun h => absurd h (by decide)) (fun _ => ?_)
  refine zk_aload_n hX dX11_init_68 rfl ?_
  refine zk_getR (a := 16) hX dX11_init_69 flX11_25 (by decide) (by decide +kernel) rfl ?_
  refine zk_iload_n hX dX11_init_72 rfl ?_
  refine zk_new hX dX11_init_73 nwX11_16 (by decide) (by decide +kernel) (zvn16 17 (by decide)) ⟨by decide, by decide⟩ ?_
  refine zk_nr2 (n' := 18) (cells' := 17) (slots' := 275) (w' := zv16) (st' := [.ref 17, .int (0), .ref 16]) rfl rfl rfl rfl rfl ?_
  refine zk_dup hX dX11_init_76 rfl ?_
  refine zk_bipush (v := 80) hX dX11_init_77 (by decide) ?_
  refine zk_callI (M' := mX8_init80) hX dX11_init_79 kcX8_init mlX11_22 imX8_init ⟨rfl, rfl⟩ rfl (s_X8_init80 17 _ (by decide) (by decide +kernel) (by decide +kernel) (zvn16.le (by decide))) rfl rfl (Nat.le_of_ble_eq_true rfl) ⟨by decide, by decide⟩ (fun v w1 hq => ?_)
  obtain ⟨rfl, rfl⟩ := hq
  refine zk_nr2 (n' := 19) (cells' := 18) (slots' := 355) (w' := zv17) (st' := [.ref 17, .int (0), .ref 16]) rfl rfl rfl rfl rfl ?_
  refine zk_aast (t := 4) (L := 4) (c := 8) hX dX11_init_82 (by decide) (by decide) (by decide +kernel) (by decide +kernel) rfl rfl (show ¬ ((0 : Int32) < 0 ∨ 4 ≤ (0 : Int32).toNatClampNeg) by decide) ?_
  refine zk_nr2 (n' := 19) (cells' := 18) (slots' := 355) (w' := zv18) (st' := []) rfl rfl rfl rfl rfl ?_
  refine zk_iinc (v := 1) (lo' := [.ref 0, .int (1)]) hX dX11_init_83 rfl (by decide) (Nat.le_of_ble_eq_true rfl) rfl rfl ?_
  refine zk_goto (tgt := 63) hX dX11_init_86 (by decide) ?_
  refine zk_iload_n hX dX11_init_63 rfl ?_
  refine zk_iconst (v := 4) hX dX11_init_64 (by decide) ?_
  refine zk_icmp_ge (tgt := 89) hX dX11_init_65 (by decide) (fun h => absurd h (by decide)) (fun _ => ?_)
  refine zk_aload_n hX dX11_init_68 rfl ?_
  refine zk_getR (a := 16) hX dX11_init_69 flX11_25 (by decide) (by decide +kernel) rfl ?_
  refine zk_iload_n hX dX11_init_72 rfl ?_
  refine zk_new hX dX11_init_73 nwX11_16 (by decide) (by decide +kernel) (zvn18 19 (by decide)) ⟨by decide, by decide⟩ ?_
  refine zk_nr2 (n' := 20) (cells' := 19) (slots' := 357) (w' := zv18) (st' := [.ref 19, .int (1), .ref 16]) rfl rfl rfl rfl rfl ?_
  refine zk_dup hX dX11_init_76 rfl ?_
  refine zk_bipush (v := 80) hX dX11_init_77 (by decide) ?_
  refine zk_callI (M' := mX8_init80) hX dX11_init_79 kcX8_init mlX11_22 imX8_init ⟨rfl, rfl⟩ rfl (s_X8_init80 19 _ (by decide) (by decide +kernel) (by decide +kernel) (zvn18.le (by decide))) rfl rfl (Nat.le_of_ble_eq_true rfl) ⟨by decide, by decide⟩ (fun v w1 hq => ?_)
  obtain ⟨rfl, rfl⟩ := hq
  refine zk_nr2 (n' := 21) (cells' := 20) (slots' := 437) (w' := zv19) (st' := [.ref 19, .int (1), .ref 16]) rfl rfl rfl rfl rfl ?_
  refine zk_aast (t := 4) (L := 4) (c := 8) hX dX11_init_82 (by decide) (by decide) (by decide +kernel) (by decide +kernel) rfl rfl (show ¬ ((1 : Int32) < 0 ∨ 4 ≤ (1 : Int32).toNatClampNeg) by decide) ?_
  refine zk_nr2 (n' := 21) (cells' := 20) (slots' := 437) (w' := zv20) (st' := []) rfl rfl rfl rfl rfl ?_
  refine zk_iinc (v := 2) (lo' := [.ref 0, .int (2)]) hX dX11_init_83 rfl (by decide) (Nat.le_of_ble_eq_true rfl) rfl rfl ?_
  refine zk_goto (tgt := 63) hX dX11_init_86 (by decide) ?_
  refine zk_iload_n hX dX11_init_63 rfl ?_
  refine zk_iconst (v := 4) hX dX11_init_64 (by decide) ?_
  refine zk_icmp_ge (tgt := 89) hX dX11_init_65 (by decide) (fun h => absurd h (by decide)) (fun _ => ?_)
  refine zk_aload_n hX dX11_init_68 rfl ?_
  refine zk_getR (a := 16) hX dX11_init_69 flX11_25 (by decide) (by decide +kernel) rfl ?_
  refine zk_iload_n hX dX11_init_72 rfl ?_
  refine zk_new hX dX11_init_73 nwX11_16 (by decide) (by decide +kernel) (zvn20 21 (by decide)) ⟨by decide, by decide⟩ ?_
  refine zk_nr2 (n' := 22) (cells' := 21) (slots' := 439) (w' := zv20) (st' := [.ref 21, .int (2), .ref 16]) rfl rfl rfl rfl rfl ?_
  refine zk_dup hX dX11_init_76 rfl ?_
  refine zk_bipush (v := 80) hX dX11_init_77 (by decide) ?_
  refine zk_callI (M' := mX8_init80) hX dX11_init_79 kcX8_init mlX11_22 imX8_init ⟨rfl, rfl⟩ rfl (s_X8_init80 21 _ (by decide) (by decide +kernel) (by decide +kernel) (zvn20.le (by decide))) rfl rfl (Nat.le_of_ble_eq_true rfl) ⟨by decide, by decide⟩ (fun v w1 hq => ?_)
  obtain ⟨rfl, rfl⟩ := hq
  refine zk_nr2 (n' := 23) (cells' := 22) (slots' := 519) (w' := zv21) (st' := [.ref 21, .int (2), .ref 16]) rfl rfl rfl rfl rfl ?_
  refine zk_aast (t := 4) (L := 4) (c := 8) hX dX11_init_82 (by decide) (by decide) (by decide +kernel) (by decide +kernel) rfl rfl (show ¬ ((2 : Int32) < 0 ∨ 4 ≤ (2 : Int32).toNatClampNeg) by decide) ?_
  refine zk_nr2 (n' := 23) (cells' := 22) (slots' := 519) (w' := zv22) (st' := []) rfl rfl rfl rfl rfl ?_
  refine zk_iinc (v := 3) (lo' := [.ref 0, .int (3)]) hX dX11_init_83 rfl (by decide) (Nat.le_of_ble_eq_true rfl) rfl rfl ?_
  refine zk_goto (tgt := 63) hX dX11_init_86 (by decide) ?_
  refine zk_iload_n hX dX11_init_63 rfl ?_
  refine zk_iconst (v := 4) hX dX11_init_64 (by decide) ?_
  refine zk_icmp_ge (tgt := 89) hX dX11_init_65 (by decide) (fun h => absurd h (by decide)) (fun _ => ?_)
  refine zk_aload_n hX dX11_init_68 rfl ?_
  refine zk_getR (a := 16) hX dX11_init_69 flX11_25 (by decide) (by decide +kernel) rfl ?_
  refine zk_iload_n hX dX11_init_72 rfl ?_
  refine zk_new hX dX11_init_73 nwX11_16 (by decide) (by decide +kernel) (zvn22 23 (by decide)) ⟨by decide, by decide⟩ ?_
  refine zk_nr2 (n' := 24) (cells' := 23) (slots' := 521) (w' := zv22) (st' := [.ref 23, .int (3), .ref 16]) rfl rfl rfl rfl rfl ?_
  refine zk_dup hX dX11_init_76 rfl ?_
  refine zk_bipush (v := 80) hX dX11_init_77 (by decide) ?_
  refine zk_callI (M' := mX8_init80) hX dX11_init_79 kcX8_init mlX11_22 imX8_init ⟨rfl, rfl⟩ rfl (s_X8_init80 23 _ (by decide) (by decide +kernel) (by decide +kernel) (zvn22.le (by decide))) rfl rfl (Nat.le_of_ble_eq_true rfl) ⟨by decide, by decide⟩ (fun v w1 hq => ?_)
  obtain ⟨rfl, rfl⟩ := hq
  refine zk_nr2 (n' := 25) (cells' := 24) (slots' := 601) (w' := zv23) (st' := [.ref 23, .int (3), .ref 16]) rfl rfl rfl rfl rfl ?_
  refine zk_aast (t := 4) (L := 4) (c := 8) hX dX11_init_82 (by decide) (by decide) (by decide +kernel) (by decide +kernel) rfl rfl (show ¬ ((3 : Int32) < 0 ∨ 4 ≤ (3 : Int32).toNatClampNeg) by decide) ?_
  refine zk_nr2 (n' := 25) (cells' := 24) (slots' := 601) (w' := zv24) (st' := []) rfl rfl rfl rfl rfl ?_
  refine zk_iinc (v := 4) (lo' := [.ref 0, .int (4)]) hX dX11_init_83 rfl (by decide) (Nat.le_of_ble_eq_true rfl) rfl rfl ?_
  refine zk_goto (tgt := 63) hX dX11_init_86 (by decide) ?_
  refine zk_iload_n hX dX11_init_63 rfl ?_
  refine zk_iconst (v := 4) hX dX11_init_64 (by decide) ?_
  refine zk_icmp_ge (tgt := 89) hX dX11_init_65 (by decide) (fun _ => ?_) (fun h => absurd (by decide) h)
  refine zk_aload_n hX dX11_init_89 rfl ?_
  refine zk_new hX dX11_init_90 nwX11_28 (by decide) (by decide +kernel) (zvn24 25 (by decide)) ⟨by decide, by decide⟩ ?_
  refine zk_nr2 (n' := 26) (cells' := 25) (slots' := 604) (w' := zv24) (st' := [.ref 25, .ref 0]) rfl rfl rfl rfl rfl ?_
  refine zk_dup hX dX11_init_93 rfl ?_
  refine zk_callIN (M' := mX7_init) hX dX11_init_94 kcX7_init mnX11_30 imX7_init ⟨rfl, rfl⟩ rfl (s_X7_init 25 _ (by decide) (by decide +kernel) (zvn24.le (by decide))) rfl rfl (Nat.le_of_ble_eq_true rfl) ⟨by decide, by decide⟩ (fun v w1 hq => ?_)
  obtain ⟨rfl, rfl⟩ := hq
  refine zk_nr2 (n' := 26) (cells' := 25) (slots' := 604) (w' := zv24) (st' := [.ref 25, .ref 0]) rfl rfl rfl rfl rfl ?_
  refine zk_putR hX dX11_init_97 plX11_31 (fun _ => rfl) (by decide) (by decide +kernel) rfl rfl ?_
  refine zk_nr2 (n' := 26) (cells' := 25) (slots' := 604) (w' := zv25) (st' := []) rfl rfl rfl rfl rfl ?_
  refine zk_aload_n hX dX11_init_100 rfl ?_
  refine zk_new hX dX11_init_101 nwX11_35 (by decide) (by decide +kernel) (zvn25 26 (by decide)) ⟨by decide, by decide⟩ ?_
  refine zk_nr2 (n' := 27) (cells' := 26) (slots' := 615) (w' := zv25) (st' := [.ref 26, .ref 0]) rfl rfl rfl rfl rfl ?_
  refine zk_dup hX dX11_init_104 rfl ?_
  refine zk_callIN (M' := mX2_init) hX dX11_init_105 kcX2_init mnX11_37 imX2_init ⟨rfl, rfl⟩ rfl (s_X2_init 26 _ (by decide) (by decide +kernel) (by decide +kernel) (by decide +kernel) (by decide +kernel) (by decide +kernel) (by decide +kernel) (by decide +kernel) (by decide +kernel) (by decide +kernel) (zvn25.le (by decide))) rfl rfl (Nat.le_of_ble_eq_true rfl) ⟨by decide, by decide⟩ (fun v w1 hq => ?_)
  obtain ⟨rfl, rfl⟩ := hq
  refine zk_nr2 (n' := 35) (cells' := 34) (slots' := 659) (w' := zv26) (st' := [.ref 26, .ref 0]) rfl rfl rfl rfl rfl ?_
  refine zk_putR hX dX11_init_108 plX11_38 (fun _ => rfl) (by decide) (by decide +kernel) rfl rfl ?_
  refine zk_nr2 (n' := 35) (cells' := 34) (slots' := 659) (w' := zv27) (st' := []) rfl rfl rfl rfl rfl ?_
  refine zk_aload_n hX dX11_init_111 rfl ?_
  refine zk_new hX dX11_init_112 nwX11_35 (by decide) (by decide +kernel) (zvn27 35 (by decide)) ⟨by decide, by decide⟩ ?_
  refine zk_nr2 (n' := 36) (cells' := 35) (slots' := 670) (w' := zv27) (st' := [.ref 35, .ref 0]) rfl rfl rfl rfl rfl ?_
  refine zk_dup hX dX11_init_115 rfl ?_
  refine zk_callIN (M' := mX2_init) hX dX11_init_116 kcX2_init mnX11_37 imX2_init ⟨rfl, rfl⟩ rfl (s_X2_init 35 _ (by decide) (by decide +kernel) (by decide +kernel) (by decide +kernel) (by decide +kernel) (by decide +kernel) (by decide +kernel) (by decide +kernel) (by decide +kernel) (by decide +kernel) (zvn27.le (by decide))) rfl rfl (Nat.le_of_ble_eq_true rfl) ⟨by decide, by decide⟩ (fun v w1 hq => ?_)
  obtain ⟨rfl, rfl⟩ := hq
  refine zk_nr2 (n' := 44) (cells' := 43) (slots' := 714) (w' := zv28) (st' := [.ref 35, .ref 0]) rfl rfl rfl rfl rfl ?_
  refine zk_putR hX dX11_init_119 plX11_42 (fun _ => rfl) (by decide) (by decide +kernel) rfl rfl ?_
  refine zk_nr2 (n' := 44) (cells' := 43) (slots' := 714) (w' := zv29) (st' := []) rfl rfl rfl rfl rfl ?_
  refine zk_aload_n hX dX11_init_122 rfl ?_
  refine zk_new hX dX11_init_123 nwX11_45 (by decide) (by decide +kernel) (zvn29 44 (by decide)) ⟨by decide, by decide⟩ ?_
  refine zk_nr2 (n' := 45) (cells' := 44) (slots' := 717) (w' := zv29) (st' := [.ref 44, .ref 0]) rfl rfl rfl rfl rfl ?_
  refine zk_dup hX dX11_init_126 rfl ?_
  refine zk_callIN (M' := mX3_init) hX dX11_init_127 kcX3_init mnX11_47 imX3_init ⟨rfl, rfl⟩ rfl (s_X3_init 44 _ (by decide) (by decide +kernel) (zvn29.le (by decide))) rfl rfl (Nat.le_of_ble_eq_true rfl) ⟨by decide, by decide⟩ (fun v w1 hq => ?_)
  obtain ⟨rfl, rfl⟩ := hq
  refine zk_nr2 (n' := 45) (cells' := 44) (slots' := 717) (w' := zv30) (st' := [.ref 44, .ref 0]) rfl rfl rfl rfl rfl ?_
  refine zk_putR hX dX11_init_130 plX11_48 (fun _ => rfl) (by decide) (by decide +kernel) rfl rfl ?_
  refine zk_nr2 (n' := 45) (cells' := 44) (slots' := 717) (w' := zv31) (st' := []) rfl rfl rfl rfl rfl ?_
  refine zk_aload_n hX dX11_init_133 rfl ?_
  refine zk_new hX dX11_init_134 nwX11_45 (by decide) (by decide +kernel) (zvn31 45 (by decide)) ⟨by decide, by decide⟩ ?_
  refine zk_nr2 (n' := 46) (cells' := 45) (slots' := 720) (w' := zv31) (st' := [.ref 45, .ref 0]) rfl rfl rfl rfl rfl ?_
  refine zk_dup hX dX11_init_137 rfl ?_
  refine zk_callIN (M' := mX3_init) hX dX11_init_138 kcX3_init mnX11_47 imX3_init ⟨rfl, rfl⟩ rfl (s_X3_init 45 _ (by decide) (by decide +kernel) (zvn31.le (by decide))) rfl rfl (Nat.le_of_ble_eq_true rfl) ⟨by decide, by decide⟩ (fun v w1 hq => ?_)
  obtain ⟨rfl, rfl⟩ := hq
  refine zk_nr2 (n' := 46) (cells' := 45) (slots' := 720) (w' := zv32) (st' := [.ref 45, .ref 0]) rfl rfl rfl rfl rfl ?_
  refine zk_putR hX dX11_init_141 plX11_52 (fun _ => rfl) (by decide) (by decide +kernel) rfl rfl ?_
  refine zk_nr2 (n' := 46) (cells' := 45) (slots' := 720) (w' := zv33) (st' := []) rfl rfl rfl rfl rfl ?_
  refine zk_aload_n hX dX11_init_144 rfl ?_
  refine zk_bipush (v := 99) hX dX11_init_145 (by decide) ?_
  refine zk_putI hX dX11_init_147 plX11_55 (fun _ => rfl) (by decide) (by decide +kernel) rfl rfl ?_
  refine zk_nr2 (n' := 46) (cells' := 45) (slots' := 720) (w' := zv34) (st' := []) rfl rfl rfl rfl rfl ?_
  refine zk_aload_n hX dX11_init_150 rfl ?_
  refine zk_bipush (v := 12) hX dX11_init_151 (by decide) ?_
  refine zk_anew (t := 5) (N := 12) hX dX11_init_153 clX11_59 hX.2.2.2.2.2.1.2.1.2.2.2.1.2.1 rfl (by decide) (by decide) (by decide) (by decide) (by decide +kernel) (zvn34 46 (by decide)) ⟨by decide, by decide⟩ ?_
  refine zk_nr2 (n' := 47) (cells' := 46) (slots' := 732) (w' := zv34) (st' := [.ref 46, .ref 0]) rfl rfl rfl rfl rfl ?_
  refine zk_putR hX dX11_init_156 plX11_61 (fun _ => rfl) (by decide) (by decide +kernel) rfl rfl ?_
  refine zk_nr2 (n' := 47) (cells' := 46) (slots' := 732) (w' := zv35) (st' := []) rfl rfl rfl rfl rfl ?_
  refine zk_iconst (v := 0) hX dX11_init_159 (by decide) ?_
  refine zk_istore_n (lo' := [.ref 0, .int (0)]) hX dX11_init_160 (Nat.le_of_ble_eq_true rfl) rfl rfl ?_
  refine zk_iload_n hX dX11_init_161 rfl ?_
  refine zk_bipush (v := 12) hX dX11_init_162 (by decide) ?_
  refine zk_icmp_ge (tgt := 186) hX dX11_init_164 (by decide) (fun h => absurd h (by decide)) (fun _ => ?_)
  refine zk_aload_n hX dX11_init_167 rfl ?_
  refine zk_getR (a := 46) hX dX11_init_168 flX11_61 (by decide) (by decide +kernel) rfl ?_
  refine zk_iload_n hX dX11_init_171 rfl ?_
  refine zk_new hX dX11_init_172 nwX11_59 (by decide) (by decide +kernel) (zvn35 47 (by decide)) ⟨by decide, by decide⟩ ?_
  refine zk_nr2 (n' := 48) (cells' := 47) (slots' := 740) (w' := zv35) (st' := [.ref 47, .int (0), .ref 46]) rfl rfl rfl rfl rfl ?_
  refine zk_dup hX dX11_init_175 rfl ?_
  refine zk_callIN (M' := mX5_init) hX dX11_init_176 kcX5_init mnX11_65 imX5_init ⟨rfl, rfl⟩ rfl (s_X5_init 47 _ (by decide) (by decide +kernel) (by decide +kernel) (by decide +kernel) (by decide +kernel) (zvn35.le (by decide))) rfl rfl (Nat.le_of_ble_eq_true rfl) ⟨by decide, by decide⟩ (fun v w1 hq => ?_)
  obtain ⟨rfl, rfl⟩ := hq
  refine zk_nr2 (n' := 51) (cells' := 50) (slots' := 750) (w' := zv36) (st' := [.ref 47, .int (0), .ref 46]) rfl rfl rfl rfl rfl ?_
  refine zk_aast (t := 5) (L := 12) (c := 5) hX dX11_init_179 (by decide) (by decide) (by decide +kernel) (by decide +kernel) rfl rfl (show ¬ ((0 : Int32) < 0 ∨ 12 ≤ (0 : Int32).toNatClampNeg) by decide) ?_
  refine zk_nr2 (n' := 51) (cells' := 50) (slots' := 750) (w' := zv37) (st' := []) rfl rfl rfl rfl rfl ?_
  refine zk_iinc (v := 1) (lo' := [.ref 0, .int (1)]) hX dX11_init_180 rfl (by decide) (Nat.le_of_ble_eq_true rfl) rfl rfl ?_
  refine zk_goto (tgt := 161) hX dX11_init_183 (by decide) ?_
  refine zk_iload_n hX dX11_init_161 rfl ?_
  refine zk_bipush (v := 12) hX dX11_init_162 (by decide) ?_
  refine zk_icmp_ge (tgt := 186) hX dX11_init_164 (by decide) (fun h => absurd h (by decide)) (fun _ => ?_)
  refine zk_aload_n hX dX11_init_167 rfl ?_
  refine zk_getR (a := 46) hX dX11_init_168 flX11_61 (by decide) (by decide +kernel) rfl ?_
  refine zk_iload_n hX dX11_init_171 rfl ?_
  refine zk_new hX dX11_init_172 nwX11_59 (by decide) (by decide +kernel) (zvn37 51 (by decide)) ⟨by decide, by decide⟩ ?_
  refine zk_nr2 (n' := 52) (cells' := 51) (slots' := 758) (w' := zv37) (st' := [.ref 51, .int (1), .ref 46]) rfl rfl rfl rfl rfl ?_
  refine zk_dup hX dX11_init_175 rfl ?_
  refine zk_callIN (M' := mX5_init) hX dX11_init_176 kcX5_init mnX11_65 imX5_init ⟨rfl, rfl⟩ rfl (s_X5_init 51 _ (by decide) (by decide +kernel) (by decide +kernel) (by decide +kernel) (by decide +kernel) (zvn37.le (by decide))) rfl rfl (Nat.le_of_ble_eq_true rfl) ⟨by decide, by decide⟩ (fun v w1 hq => ?_)
  obtain ⟨rfl, rfl⟩ := hq
  refine zk_nr2 (n' := 55) (cells' := 54) (slots' := 768) (w' := zv38) (st' := [.ref 51, .int (1), .ref 46]) rfl rfl rfl rfl rfl ?_
  refine zk_aast (t := 5) (L := 12) (c := 5) hX dX11_init_179 (by decide) (by decide) (by decide +kernel) (by decide +kernel) rfl rfl (show ¬ ((1 : Int32) < 0 ∨ 12 ≤ (1 : Int32).toNatClampNeg) by decide) ?_
  refine zk_nr2 (n' := 55) (cells' := 54) (slots' := 768) (w' := zv39) (st' := []) rfl rfl rfl rfl rfl ?_
  refine zk_iinc (v := 2) (lo' := [.ref 0, .int (2)]) hX dX11_init_180 rfl (by decide) (Nat.le_of_ble_eq_true rfl) rfl rfl ?_
  refine zk_goto (tgt := 161) hX dX11_init_183 (by decide) ?_
  refine zk_iload_n hX dX11_init_161 rfl ?_
  refine zk_bipush (v := 12) hX dX11_init_162 (by decide) ?_
  refine zk_icmp_ge (tgt := 186) hX dX11_init_164 (by decide) (fun h => absurd h (by decide)) (fun _ => ?_)
  refine zk_aload_n hX dX11_init_167 rfl ?_
  refine zk_getR (a := 46) hX dX11_init_168 flX11_61 (by decide) (by decide +kernel) rfl ?_
  refine zk_iload_n hX dX11_init_171 rfl ?_
  refine zk_new hX dX11_init_172 nwX11_59 (by decide) (by decide +kernel) (zvn39 55 (by decide)) ⟨by decide, by decide⟩ ?_
  refine zk_nr2 (n' := 56) (cells' := 55) (slots' := 776) (w' := zv39) (st' := [.ref 55, .int (2), .ref 46]) rfl rfl rfl rfl rfl ?_
  refine zk_dup hX dX11_init_175 rfl ?_
  refine zk_callIN (M' := mX5_init) hX dX11_init_176 kcX5_init mnX11_65 imX5_init ⟨rfl, rfl⟩ rfl (s_X5_init 55 _ (by decide) (by decide +kernel) (by decide +kernel) (by decide +kernel) (by decide +kernel) (zvn39.le (by decide))) rfl rfl (Nat.le_of_ble_eq_true rfl) ⟨by decide, by decide⟩ (fun v w1 hq => ?_)
  obtain ⟨rfl, rfl⟩ := hq
  refine zk_nr2 (n' := 59) (cells' := 58) (slots' := 786) (w' := zv40) (st' := [.ref 55, .int (2), .ref 46]) rfl rfl rfl rfl rfl ?_
  refine zk_aast (t := 5) (L := 12) (c := 5) hX dX11_init_179 (by decide) (by decide) (by decide +kernel) (by decide +kernel) rfl rfl (show ¬ ((2 : Int32) < 0 ∨ 12 ≤ (2 : Int32).toNatClampNeg) by decide) ?_
  refine zk_nr2 (n' := 59) (cells' := 58) (slots' := 786) (w' := zv41) (st' := []) rfl rfl rfl rfl rfl ?_
  refine zk_iinc (v := 3) (lo' := [.ref 0, .int (3)]) hX dX11_init_180 rfl (by decide) (Nat.le_of_ble_eq_true rfl) rfl rfl ?_
  refine zk_goto (tgt := 161) hX dX11_init_183 (by decide) ?_
  refine zk_iload_n hX dX11_init_161 rfl ?_
  refine zk_bipush (v := 12) hX dX11_init_162 (by decide) ?_
  refine zk_icmp_ge (tgt := 186) hX dX11_init_164 (by decide) (fun h => absurd h (by decide)) (fun _ => ?_)
  refine zk_aload_n hX dX11_init_167 rfl ?_
  refine zk_getR (a := 46) hX dX11_init_168 flX11_61 (by decide) (by decide +kernel) rfl ?_
  refine zk_iload_n hX dX11_init_171 rfl ?_
  refine zk_new hX dX11_init_172 nwX11_59 (by decide) (by decide +kernel) (zvn41 59 (by decide)) ⟨by decide, by decide⟩ ?_
  refine zk_nr2 (n' := 60) (cells' := 59) (slots' := 794) (w' := zv41) (st' := [.ref 59, .int (3), .ref 46]) rfl rfl rfl rfl rfl ?_
  refine zk_dup hX dX11_init_175 rfl ?_
  refine zk_callIN (M' := mX5_init) hX dX11_init_176 kcX5_init mnX11_65 imX5_init ⟨rfl, rfl⟩ rfl (s_X5_init 59 _ (by decide) (by decide +kernel) (by decide +kernel) (by decide +kernel) (by decide +kernel) (zvn41.le (by decide))) rfl rfl (Nat.le_of_ble_eq_true rfl) ⟨by decide, by decide⟩ (fun v w1 hq => ?_)
  obtain ⟨rfl, rfl⟩ := hq
  refine zk_nr2 (n' := 63) (cells' := 62) (slots' := 804) (w' := zv42) (st' := [.ref 59, .int (3), .ref 46]) rfl rfl rfl rfl rfl ?_
  refine zk_aast (t := 5) (L := 12) (c := 5) hX dX11_init_179 (by decide) (by decide) (by decide +kernel) (by decide +kernel) rfl rfl (show ¬ ((3 : Int32) < 0 ∨ 12 ≤ (3 : Int32).toNatClampNeg) by decide) ?_
  refine zk_nr2 (n' := 63) (cells' := 62) (slots' := 804) (w' := zv43) (st' := []) rfl rfl rfl rfl rfl ?_
  refine zk_iinc (v := 4) (lo' := [.ref 0, .int (4)]) hX dX11_init_180 rfl (by decide) (Nat.le_of_ble_eq_true rfl) rfl rfl ?_
  refine zk_goto (tgt := 161) hX dX11_init_183 (by decide) ?_
  refine zk_iload_n hX dX11_init_161 rfl ?_
  refine zk_bipush (v := 12) hX dX11_init_162 (by decide) ?_
  refine zk_icmp_ge (tgt := 186) hX dX11_init_164 (by decide) (fun h => absurd h (by decide)) (fun _ => ?_)
  refine zk_aload_n hX dX11_init_167 rfl ?_
  refine zk_getR (a := 46) hX dX11_init_168 flX11_61 (by decide) (by decide +kernel) rfl ?_
  refine zk_iload_n hX dX11_init_171 rfl ?_
  refine zk_new hX dX11_init_172 nwX11_59 (by decide) (by decide +kernel) (zvn43 63 (by decide)) ⟨by decide, by decide⟩ ?_
  refine zk_nr2 (n' := 64) (cells' := 63) (slots' := 812) (w' := zv43) (st' := [.ref 63, .int (4), .ref 46]) rfl rfl rfl rfl rfl ?_
  refine zk_dup hX dX11_init_175 rfl ?_
  refine zk_callIN (M' := mX5_init) hX dX11_init_176 kcX5_init mnX11_65 imX5_init ⟨rfl, rfl⟩ rfl (s_X5_init 63 _ (by decide) (by decide +kernel) (by decide +kernel) (by decide +kernel) (by decide +kernel) (zvn43.le (by decide))) rfl rfl (Nat.le_of_ble_eq_true rfl) ⟨by decide, by decide⟩ (fun v w1 hq => ?_)
  obtain ⟨rfl, rfl⟩ := hq
  refine zk_nr2 (n' := 67) (cells' := 66) (slots' := 822) (w' := zv44) (st' := [.ref 63, .int (4), .ref 46]) rfl rfl rfl rfl rfl ?_
  refine zk_aast (t := 5) (L := 12) (c := 5) hX dX11_init_179 (by decide) (by decide) (by decide +kernel) (by decide +kernel) rfl rfl (show ¬ ((4 : Int32) < 0 ∨ 12 ≤ (4 : Int32).toNatClampNeg) by decide) ?_
  refine zk_nr2 (n' := 67) (cells' := 66) (slots' := 822) (w' := zv45) (st' := []) rfl rfl rfl rfl rfl ?_
  refine zk_iinc (v := 5) (lo' := [.ref 0, .int (5)]) hX dX11_init_180 rfl (by decide) (Nat.le_of_ble_eq_true rfl) rfl rfl ?_
  refine zk_goto (tgt := 161) hX dX11_init_183 (by decide) ?_
  refine zk_iload_n hX dX11_init_161 rfl ?_
  refine zk_bipush (v := 12) hX dX11_init_162 (by decide) ?_
  refine zk_icmp_ge (tgt := 186) hX dX11_init_164 (by decide) (fun h => absurd h (by decide)) (fun _ => ?_)
  refine zk_aload_n hX dX11_init_167 rfl ?_
  refine zk_getR (a := 46) hX dX11_init_168 flX11_61 (by decide) (by decide +kernel) rfl ?_
  refine zk_iload_n hX dX11_init_171 rfl ?_
  refine zk_new hX dX11_init_172 nwX11_59 (by decide) (by decide +kernel) (zvn45 67 (by decide)) ⟨by decide, by decide⟩ ?_
  refine zk_nr2 (n' := 68) (cells' := 67) (slots' := 830) (w' := zv45) (st' := [.ref 67, .int (5), .ref 46]) rfl rfl rfl rfl rfl ?_
  refine zk_dup hX dX11_init_175 rfl ?_
  refine zk_callIN (M' := mX5_init) hX dX11_init_176 kcX5_init mnX11_65 imX5_init ⟨rfl, rfl⟩ rfl (s_X5_init 67 _ (by decide) (by decide +kernel) (by decide +kernel) (by decide +kernel) (by decide +kernel) (zvn45.le (by decide))) rfl rfl (Nat.le_of_ble_eq_true rfl) ⟨by decide, by decide⟩ (fun v w1 hq => ?_)
  obtain ⟨rfl, rfl⟩ := hq
  refine zk_nr2 (n' := 71) (cells' := 70) (slots' := 840) (w' := zv46) (st' := [.ref 67, .int (5), .ref 46]) rfl rfl rfl rfl rfl ?_
  refine zk_aast (t := 5) (L := 12) (c := 5) hX dX11_init_179 (by decide) (by decide) (by decide +kernel) (by decide +kernel) rfl rfl (show ¬ ((5 : Int32) < 0 ∨ 12 ≤ (5 : Int32).toNatClampNeg) by decide) ?_
  refine zk_nr2 (n' := 71) (cells' := 70) (slots' := 840) (w' := zv47) (st' := []) rfl rfl rfl rfl rfl ?_
  refine zk_iinc (v := 6) (lo' := [.ref 0, .int (6)]) hX dX11_init_180 rfl (by decide) (Nat.le_of_ble_eq_true rfl) rfl rfl ?_
  refine zk_goto (tgt := 161) hX dX11_init_183 (by decide) ?_
  refine zk_iload_n hX dX11_init_161 rfl ?_
  refine zk_bipush (v := 12) hX dX11_init_162 (by decide) ?_
  refine zk_icmp_ge (tgt := 186) hX dX11_init_164 (by decide) (fun h => absurd h (by decide)) (fun _ => ?_)
  refine zk_aload_n hX dX11_init_167 rfl ?_
  refine zk_getR (a := 46) hX dX11_init_168 flX11_61 (by decide) (by decide +kernel) rfl ?_
  refine zk_iload_n hX dX11_init_171 rfl ?_
  refine zk_new hX dX11_init_172 nwX11_59 (by decide) (by decide +kernel) (zvn47 71 (by decide)) ⟨by decide, by decide⟩ ?_
  refine zk_nr2 (n' := 72) (cells' := 71) (slots' := 848) (w' := zv47) (st' := [.ref 71, .int (6), .ref 46]) rfl rfl rfl rfl rfl ?_
  refine zk_dup hX dX11_init_175 rfl ?_
  refine zk_callIN (M' := mX5_init) hX dX11_init_176 kcX5_init mnX11_65 imX5_init ⟨rfl, rfl⟩ rfl (s_X5_init 71 _ (by decide) (by decide +kernel) (by decide +kernel) (by decide +kernel) (by decide +kernel) (zvn47.le (by decide))) rfl rfl (Nat.le_of_ble_eq_true rfl) ⟨by decide, by decide⟩ (fun v w1 hq => ?_)
  obtain ⟨rfl, rfl⟩ := hq
  refine zk_nr2 (n' := 75) (cells' := 74) (slots' := 858) (w' := zv48) (st' := [.ref 71, .int (6), .ref 46]) rfl rfl rfl rfl rfl ?_
  refine zk_aast (t := 5) (L := 12) (c := 5) hX dX11_init_179 (by decide) (by decide) (by decide +kernel) (by decide +kernel) rfl rfl (show ¬ ((6 : Int32) < 0 ∨ 12 ≤ (6 : Int32).toNatClampNeg) by decide) ?_
  refine zk_nr2 (n' := 75) (cells' := 74) (slots' := 858) (w' := zv49) (st' := []) rfl rfl rfl rfl rfl ?_
  refine zk_iinc (v := 7) (lo' := [.ref 0, .int (7)]) hX dX11_init_180 rfl (by decide) (Nat.le_of_ble_eq_true rfl) rfl rfl ?_
  refine zk_goto (tgt := 161) hX dX11_init_183 (by decide) ?_
  refine zk_iload_n hX dX11_init_161 rfl ?_
  refine zk_bipush (v := 12) hX dX11_init_162 (by decide) ?_
  refine zk_icmp_ge (tgt := 186) hX dX11_init_164 (by decide) (fun h => absurd h (by decide)) (fun _ => ?_)
  refine zk_aload_n hX dX11_init_167 rfl ?_
  refine zk_getR (a := 46) hX dX11_init_168 flX11_61 (by decide) (by decide +kernel) rfl ?_
  refine zk_iload_n hX dX11_init_171 rfl ?_
  refine zk_new hX dX11_init_172 nwX11_59 (by decide) (by decide +kernel) (zvn49 75 (by decide)) ⟨by decide, by decide⟩ ?_
  refine zk_nr2 (n' := 76) (cells' := 75) (slots' := 866) (w' := zv49) (st' := [.ref 75, .int (7), .ref 46]) rfl rfl rfl rfl rfl ?_
  refine zk_dup hX dX11_init_175 rfl ?_
  refine zk_callIN (M' := mX5_init) hX dX11_init_176 kcX5_init mnX11_65 imX5_init ⟨rfl, rfl⟩ rfl (s_X5_init 75 _ (by decide) (by decide +kernel) (by decide +kernel) (by decide +kernel) (by decide +kernel) (zvn49.le (by decide))) rfl rfl (Nat.le_of_ble_eq_true rfl) ⟨by decide, by decide⟩ (fun v w1 hq => ?_)
  obtain ⟨rfl, rfl⟩ := hq
  refine zk_nr2 (n' := 79) (cells' := 78) (slots' := 876) (w' := zv50) (st' := [.ref 75, .int (7), .ref 46]) rfl rfl rfl rfl rfl ?_
  refine zk_aast (t := 5) (L := 12) (c := 5) hX dX11_init_179 (by decide) (by decide) (by decide +kernel) (by decide +kernel) rfl rfl (show ¬ ((7 : Int32) < 0 ∨ 12 ≤ (7 : Int32).toNatClampNeg) by decide) ?_
  refine zk_nr2 (n' := 79) (cells' := 78) (slots' := 876) (w' := zv51) (st' := []) rfl rfl rfl rfl rfl ?_
  refine zk_iinc (v := 8) (lo' := [.ref 0, .int (8)]) hX dX11_init_180 rfl (by decide) (Nat.le_of_ble_eq_true rfl) rfl rfl ?_
  refine zk_goto (tgt := 161) hX dX11_init_183 (by decide) ?_
  refine zk_iload_n hX dX11_init_161 rfl ?_
  refine zk_bipush (v := 12) hX dX11_init_162 (by decide) ?_
  refine zk_icmp_ge (tgt := 186) hX dX11_init_164 (by decide) (fun h => absurd h (by decide)) (fun _ => ?_)
  refine zk_aload_n hX dX11_init_167 rfl ?_
  refine zk_getR (a := 46) hX dX11_init_168 flX11_61 (by decide) (by decide +kernel) rfl ?_
  refine zk_iload_n hX dX11_init_171 rfl ?_
  refine zk_new hX dX11_init_172 nwX11_59 (by decide) (by decide +kernel) (zvn51 79 (by decide)) ⟨by decide, by decide⟩ ?_
  refine zk_nr2 (n' := 80) (cells' := 79) (slots' := 884) (w' := zv51) (st' := [.ref 79, .int (8), .ref 46]) rfl rfl rfl rfl rfl ?_
  refine zk_dup hX dX11_init_175 rfl ?_
  refine zk_callIN (M' := mX5_init) hX dX11_init_176 kcX5_init mnX11_65 imX5_init ⟨rfl, rfl⟩ rfl (s_X5_init 79 _ (by decide) (by decide +kernel) (by decide +kernel) (by decide +kernel) (by decide +kernel) (zvn51.le (by decide))) rfl rfl (Nat.le_of_ble_eq_true rfl) ⟨by decide, by decide⟩ (fun v w1 hq => ?_)
  obtain ⟨rfl, rfl⟩ := hq
  refine zk_nr2 (n' := 83) (cells' := 82) (slots' := 894) (w' := zv52) (st' := [.ref 79, .int (8), .ref 46]) rfl rfl rfl rfl rfl ?_
  refine zk_aast (t := 5) (L := 12) (c := 5) hX dX11_init_179 (by decide) (by decide) (by decide +kernel) (by decide +kernel) rfl rfl (show ¬ ((8 : Int32) < 0 ∨ 12 ≤ (8 : Int32).toNatClampNeg) by decide) ?_
  refine zk_nr2 (n' := 83) (cells' := 82) (slots' := 894) (w' := zv53) (st' := []) rfl rfl rfl rfl rfl ?_
  refine zk_iinc (v := 9) (lo' := [.ref 0, .int (9)]) hX dX11_init_180 rfl (by decide) (Nat.le_of_ble_eq_true rfl) rfl rfl ?_
  refine zk_goto (tgt := 161) hX dX11_init_183 (by decide) ?_
  refine zk_iload_n hX dX11_init_161 rfl ?_
  refine zk_bipush (v := 12) hX dX11_init_162 (by decide) ?_
  refine zk_icmp_ge (tgt := 186) hX dX11_init_164 (by decide) (fun h => absurd h (by decide)) (fun _ => ?_)
  refine zk_aload_n hX dX11_init_167 rfl ?_
  refine zk_getR (a := 46) hX dX11_init_168 flX11_61 (by decide) (by decide +kernel) rfl ?_
  refine zk_iload_n hX dX11_init_171 rfl ?_
  refine zk_new hX dX11_init_172 nwX11_59 (by decide) (by decide +kernel) (zvn53 83 (by decide)) ⟨by decide, by decide⟩ ?_
  refine zk_nr2 (n' := 84) (cells' := 83) (slots' := 902) (w' := zv53) (st' := [.ref 83, .int (9), .ref 46]) rfl rfl rfl rfl rfl ?_
  refine zk_dup hX dX11_init_175 rfl ?_
  refine zk_callIN (M' := mX5_init) hX dX11_init_176 kcX5_init mnX11_65 imX5_init ⟨rfl, rfl⟩ rfl (s_X5_init 83 _ (by decide) (by decide +kernel) (by decide +kernel) (by decide +kernel) (by decide +kernel) (zvn53.le (by decide))) rfl rfl (Nat.le_of_ble_eq_true rfl) ⟨by decide, by decide⟩ (fun v w1 hq => ?_)
  obtain ⟨rfl, rfl⟩ := hq
  refine zk_nr2 (n' := 87) (cells' := 86) (slots' := 912) (w' := zv54) (st' := [.ref 83, .int (9), .ref 46]) rfl rfl rfl rfl rfl ?_
  refine zk_aast (t := 5) (L := 12) (c := 5) hX dX11_init_179 (by decide) (by decide) (by decide +kernel) (by decide +kernel) rfl rfl (show ¬ ((9 : Int32) < 0 ∨ 12 ≤ (9 : Int32).toNatClampNeg) by decide) ?_
  refine zk_nr2 (n' := 87) (cells' := 86) (slots' := 912) (w' := zv55) (st' := []) rfl rfl rfl rfl rfl ?_
  refine zk_iinc (v := 10) (lo' := [.ref 0, .int (10)]) hX dX11_init_180 rfl (by decide) (Nat.le_of_ble_eq_true rfl) rfl rfl ?_
  refine zk_goto (tgt := 161) hX dX11_init_183 (by decide) ?_
  refine zk_iload_n hX dX11_init_161 rfl ?_
  refine zk_bipush (v := 12) hX dX11_init_162 (by decide) ?_
  refine zk_icmp_ge (tgt := 186) hX dX11_init_164 (by decide) (fun h => absurd h (by decide)) (fun _ => ?_)
  refine zk_aload_n hX dX11_init_167 rfl ?_
  refine zk_getR (a := 46) hX dX11_init_168 flX11_61 (by decide) (by decide +kernel) rfl ?_
  refine zk_iload_n hX dX11_init_171 rfl ?_
  refine zk_new hX dX11_init_172 nwX11_59 (by decide) (by decide +kernel) (zvn55 87 (by decide)) ⟨by decide, by decide⟩ ?_
  refine zk_nr2 (n' := 88) (cells' := 87) (slots' := 920) (w' := zv55) (st' := [.ref 87, .int (10), .ref 46]) rfl rfl rfl rfl rfl ?_
  refine zk_dup hX dX11_init_175 rfl ?_
  refine zk_callIN (M' := mX5_init) hX dX11_init_176 kcX5_init mnX11_65 imX5_init ⟨rfl, rfl⟩ rfl (s_X5_init 87 _ (by decide) (by decide +kernel) (by decide +kernel) (by decide +kernel) (by decide +kernel) (zvn55.le (by decide))) rfl rfl (Nat.le_of_ble_eq_true rfl) ⟨by decide, by decide⟩ (fun v w1 hq => ?_)
  obtain ⟨rfl, rfl⟩ := hq
  refine zk_nr2 (n' := 91) (cells' := 90) (slots' := 930) (w' := zv56) (st' := [.ref 87, .int (10), .ref 46]) rfl rfl rfl rfl rfl ?_
  refine zk_aast (t := 5) (L := 12) (c := 5) hX dX11_init_179 (by decide) (by decide) (by decide +kernel) (by decide +kernel) rfl rfl (show ¬ ((10 : Int32) < 0 ∨ 12 ≤ (10 : Int32).toNatClampNeg) by decide) ?_
  refine zk_nr2 (n' := 91) (cells' := 90) (slots' := 930) (w' := zv57) (st' := []) rfl rfl rfl rfl rfl ?_
  refine zk_iinc (v := 11) (lo' := [.ref 0, .int (11)]) hX dX11_init_180 rfl (by decide) (Nat.le_of_ble_eq_true rfl) rfl rfl ?_
  refine zk_goto (tgt := 161) hX dX11_init_183 (by decide) ?_
  refine zk_iload_n hX dX11_init_161 rfl ?_
  refine zk_bipush (v := 12) hX dX11_init_162 (by decide) ?_
  refine zk_icmp_ge (tgt := 186) hX dX11_init_164 (by decide) (fun h => absurd h (by decide)) (fun _ => ?_)
  refine zk_aload_n hX dX11_init_167 rfl ?_
  refine zk_getR (a := 46) hX dX11_init_168 flX11_61 (by decide) (by decide +kernel) rfl ?_
  refine zk_iload_n hX dX11_init_171 rfl ?_
  refine zk_new hX dX11_init_172 nwX11_59 (by decide) (by decide +kernel) (zvn57 91 (by decide)) ⟨by decide, by decide⟩ ?_
  refine zk_nr2 (n' := 92) (cells' := 91) (slots' := 938) (w' := zv57) (st' := [.ref 91, .int (11), .ref 46]) rfl rfl rfl rfl rfl ?_
  refine zk_dup hX dX11_init_175 rfl ?_
  refine zk_callIN (M' := mX5_init) hX dX11_init_176 kcX5_init mnX11_65 imX5_init ⟨rfl, rfl⟩ rfl (s_X5_init 91 _ (by decide) (by decide +kernel) (by decide +kernel) (by decide +kernel) (by decide +kernel) (zvn57.le (by decide))) rfl rfl (Nat.le_of_ble_eq_true rfl) ⟨by decide, by decide⟩ (fun v w1 hq => ?_)
  obtain ⟨rfl, rfl⟩ := hq
  refine zk_nr2 (n' := 95) (cells' := 94) (slots' := 948) (w' := zv58) (st' := [.ref 91, .int (11), .ref 46]) rfl rfl rfl rfl rfl ?_
  refine zk_aast (t := 5) (L := 12) (c := 5) hX dX11_init_179 (by decide) (by decide) (by decide +kernel) (by decide +kernel) rfl rfl (show ¬ ((11 : Int32) < 0 ∨ 12 ≤ (11 : Int32).toNatClampNeg) by decide) ?_
  refine zk_nr2 (n' := 95) (cells' := 94) (slots' := 948) (w' := zv59) (st' := []) rfl rfl rfl rfl rfl ?_
  refine zk_iinc (v := 12) (lo' := [.ref 0, .int (12)]) hX dX11_init_180 rfl (by decide) (Nat.le_of_ble_eq_true rfl) rfl rfl ?_
  refine zk_goto (tgt := 161) hX dX11_init_183 (by decide) ?_
  refine zk_iload_n hX dX11_init_161 rfl ?_
  refine zk_bipush (v := 12) hX dX11_init_162 (by decide) ?_
  refine zk_icmp_ge (tgt := 186) hX dX11_init_164 (by decide) (fun _ => ?_) (fun h => absurd (by decide) h)
  refine zk_aload_n hX dX11_init_186 rfl ?_
  refine zk_bipush (v := 6) hX dX11_init_187 (by decide) ?_
  refine zk_anew (t := 6) (N := 6) hX dX11_init_189 clX11_66 hX.2.2.2.2.2.1.2.1.2.2.2.1.2.2 rfl (by decide) (by decide) (by decide) (by decide) (by decide +kernel) (zvn59 95 (by decide)) ⟨by decide, by decide⟩ ?_
  refine zk_nr2 (n' := 96) (cells' := 95) (slots' := 954) (w' := zv59) (st' := [.ref 95, .ref 0]) rfl rfl rfl rfl rfl ?_
  refine zk_putR hX dX11_init_192 plX11_68 (fun _ => rfl) (by decide) (by decide +kernel) rfl rfl ?_
  refine zk_nr2 (n' := 96) (cells' := 95) (slots' := 954) (w' := zv60) (st' := []) rfl rfl rfl rfl rfl ?_
  refine zk_iconst (v := 0) hX dX11_init_195 (by decide) ?_
  refine zk_istore_n (lo' := [.ref 0, .int (0)]) hX dX11_init_196 (Nat.le_of_ble_eq_true rfl) rfl rfl ?_
  refine zk_iload_n hX dX11_init_197 rfl ?_
  refine zk_bipush (v := 6) hX dX11_init_198 (by decide) ?_
  refine zk_icmp_ge (tgt := 222) hX dX11_init_200 (by decide) (fun h => absurd h (by decide)) (fun _ => ?_)
  refine zk_aload_n hX dX11_init_203 rfl ?_
  refine zk_getR (a := 95) hX dX11_init_204 flX11_68 (by decide) (by decide +kernel) rfl ?_
  refine zk_iload_n hX dX11_init_207 rfl ?_
  refine zk_new hX dX11_init_208 nwX11_66 (by decide) (by decide +kernel) (zvn60 96 (by decide)) ⟨by decide, by decide⟩ ?_
  refine zk_nr2 (n' := 97) (cells' := 96) (slots' := 958) (w' := zv60) (st' := [.ref 96, .int (0), .ref 95]) rfl rfl rfl rfl rfl ?_
  refine zk_dup hX dX11_init_211 rfl ?_
  refine zk_callIN (M' := mX0_init) hX dX11_init_212 kcX0_init mnX11_72 imX0_init ⟨rfl, rfl⟩ rfl (s_X0_init 96 _ (by decide) (by decide +kernel) (by decide +kernel) (by decide +kernel) (zvn60.le (by decide))) rfl rfl (Nat.le_of_ble_eq_true rfl) ⟨by decide, by decide⟩ (fun v w1 hq => ?_)
  obtain ⟨rfl, rfl⟩ := hq
  refine zk_nr2 (n' := 99) (cells' := 98) (slots' := 962) (w' := zv61) (st' := [.ref 96, .int (0), .ref 95]) rfl rfl rfl rfl rfl ?_
  refine zk_aast (t := 6) (L := 6) (c := 0) hX dX11_init_215 (by decide) (by decide) (by decide +kernel) (by decide +kernel) rfl rfl (show ¬ ((0 : Int32) < 0 ∨ 6 ≤ (0 : Int32).toNatClampNeg) by decide) ?_
  refine zk_nr2 (n' := 99) (cells' := 98) (slots' := 962) (w' := zv62) (st' := []) rfl rfl rfl rfl rfl ?_
  refine zk_iinc (v := 1) (lo' := [.ref 0, .int (1)]) hX dX11_init_216 rfl (by decide) (Nat.le_of_ble_eq_true rfl) rfl rfl ?_
  refine zk_goto (tgt := 197) hX dX11_init_219 (by decide) ?_
  refine zk_iload_n hX dX11_init_197 rfl ?_
  refine zk_bipush (v := 6) hX dX11_init_198 (by decide) ?_
  refine zk_icmp_ge (tgt := 222) hX dX11_init_200 (by decide) (fun h => absurd h (by decide)) (fun _ => ?_)
  refine zk_aload_n hX dX11_init_203 rfl ?_
  refine zk_getR (a := 95) hX dX11_init_204 flX11_68 (by decide) (by decide +kernel) rfl ?_
  refine zk_iload_n hX dX11_init_207 rfl ?_
  refine zk_new hX dX11_init_208 nwX11_66 (by decide) (by decide +kernel) (zvn62 99 (by decide)) ⟨by decide, by decide⟩ ?_
  refine zk_nr2 (n' := 100) (cells' := 99) (slots' := 966) (w' := zv62) (st' := [.ref 99, .int (1), .ref 95]) rfl rfl rfl rfl rfl ?_
  refine zk_dup hX dX11_init_211 rfl ?_
  refine zk_callIN (M' := mX0_init) hX dX11_init_212 kcX0_init mnX11_72 imX0_init ⟨rfl, rfl⟩ rfl (s_X0_init 99 _ (by decide) (by decide +kernel) (by decide +kernel) (by decide +kernel) (zvn62.le (by decide))) rfl rfl (Nat.le_of_ble_eq_true rfl) ⟨by decide, by decide⟩ (fun v w1 hq => ?_)
  obtain ⟨rfl, rfl⟩ := hq
  refine zk_nr2 (n' := 102) (cells' := 101) (slots' := 970) (w' := zv63) (st' := [.ref 99, .int (1), .ref 95]) rfl rfl rfl rfl rfl ?_
  refine zk_aast (t := 6) (L := 6) (c := 0) hX dX11_init_215 (by decide) (by decide) (by decide +kernel) (by decide +kernel) rfl rfl (show ¬ ((1 : Int32) < 0 ∨ 6 ≤ (1 : Int32).toNatClampNeg) by decide) ?_
  refine zk_nr2 (n' := 102) (cells' := 101) (slots' := 970) (w' := zv64) (st' := []) rfl rfl rfl rfl rfl ?_
  refine zk_iinc (v := 2) (lo' := [.ref 0, .int (2)]) hX dX11_init_216 rfl (by decide) (Nat.le_of_ble_eq_true rfl) rfl rfl ?_
  refine zk_goto (tgt := 197) hX dX11_init_219 (by decide) ?_
  refine zk_iload_n hX dX11_init_197 rfl ?_
  refine zk_bipush (v := 6) hX dX11_init_198 (by decide) ?_
  refine zk_icmp_ge (tgt := 222) hX dX11_init_200 (by decide) (fun h => absurd h (by decide)) (fun _ => ?_)
  refine zk_aload_n hX dX11_init_203 rfl ?_
  refine zk_getR (a := 95) hX dX11_init_204 flX11_68 (by decide) (by decide +kernel) rfl ?_
  refine zk_iload_n hX dX11_init_207 rfl ?_
  refine zk_new hX dX11_init_208 nwX11_66 (by decide) (by decide +kernel) (zvn64 102 (by decide)) ⟨by decide, by decide⟩ ?_
  refine zk_nr2 (n' := 103) (cells' := 102) (slots' := 974) (w' := zv64) (st' := [.ref 102, .int (2), .ref 95]) rfl rfl rfl rfl rfl ?_
  refine zk_dup hX dX11_init_211 rfl ?_
  refine zk_callIN (M' := mX0_init) hX dX11_init_212 kcX0_init mnX11_72 imX0_init ⟨rfl, rfl⟩ rfl (s_X0_init 102 _ (by decide) (by decide +kernel) (by decide +kernel) (by decide +kernel) (zvn64.le (by decide))) rfl rfl (Nat.le_of_ble_eq_true rfl) ⟨by decide, by decide⟩ (fun v w1 hq => ?_)
  obtain ⟨rfl, rfl⟩ := hq
  refine zk_nr2 (n' := 105) (cells' := 104) (slots' := 978) (w' := zv65) (st' := [.ref 102, .int (2), .ref 95]) rfl rfl rfl rfl rfl ?_
  refine zk_aast (t := 6) (L := 6) (c := 0) hX dX11_init_215 (by decide) (by decide) (by decide +kernel) (by decide +kernel) rfl rfl (show ¬ ((2 : Int32) < 0 ∨ 6 ≤ (2 : Int32).toNatClampNeg) by decide) ?_
  refine zk_nr2 (n' := 105) (cells' := 104) (slots' := 978) (w' := zv66) (st' := []) rfl rfl rfl rfl rfl ?_
  refine zk_iinc (v := 3) (lo' := [.ref 0, .int (3)]) hX dX11_init_216 rfl (by decide) (Nat.le_of_ble_eq_true rfl) rfl rfl ?_
  refine zk_goto (tgt := 197) hX dX11_init_219 (by decide) ?_
  refine zk_iload_n hX dX11_init_197 rfl ?_
  refine zk_bipush (v := 6) hX dX11_init_198 (by decide) ?_
  refine zk_icmp_ge (tgt := 222) hX dX11_init_200 (by decide) (fun h => absurd h (by decide)) (fun _ => ?_)
  refine zk_aload_n hX dX11_init_203 rfl ?_
  refine zk_getR (a := 95) hX dX11_init_204 flX11_68 (by decide) (by decide +kernel) rfl ?_
  refine zk_iload_n hX dX11_init_207 rfl ?_
  refine zk_new hX dX11_init_208 nwX11_66 (by decide) (by decide +kernel) (zvn66 105 (by decide)) ⟨by decide, by decide⟩ ?_
  refine zk_nr2 (n' := 106) (cells' := 105) (slots' := 982) (w' := zv66) (st' := [.ref 105, .int (3), .ref 95]) rfl rfl rfl rfl rfl ?_
  refine zk_dup hX dX11_init_211 rfl ?_
  refine zk_callIN (M' := mX0_init) hX dX11_init_212 kcX0_init mnX11_72 imX0_init ⟨rfl, rfl⟩ rfl (s_X0_init 105 _ (by decide) (by decide +kernel) (by decide +kernel) (by decide +kernel) (zvn66.le (by decide))) rfl rfl (Nat.le_of_ble_eq_true rfl) ⟨by decide, by decide⟩ (fun v w1 hq => ?_)
  obtain ⟨rfl, rfl⟩ := hq
  refine zk_nr2 (n' := 108) (cells' := 107) (slots' := 986) (w' := zv67) (st' := [.ref 105, .int (3), .ref 95]) rfl rfl rfl rfl rfl ?_
  refine zk_aast (t := 6) (L := 6) (c := 0) hX dX11_init_215 (by decide) (by decide) (by decide +kernel) (by decide +kernel) rfl rfl (show ¬ ((3 : Int32) < 0 ∨ 6 ≤ (3 : Int32).toNatClampNeg) by decide) ?_
  refine zk_nr2 (n' := 108) (cells' := 107) (slots' := 986) (w' := zv68) (st' := []) rfl rfl rfl rfl rfl ?_
  refine zk_iinc (v := 4) (lo' := [.ref 0, .int (4)]) hX dX11_init_216 rfl (by decide) (Nat.le_of_ble_eq_true rfl) rfl rfl ?_
  refine zk_goto (tgt := 197) hX dX11_init_219 (by decide) ?_
  refine zk_iload_n hX dX11_init_197 rfl ?_
  refine zk_bipush (v := 6) hX dX11_init_198 (by decide) ?_
  refine zk_icmp_ge (tgt := 222) hX dX11_init_200 (by decide) (fun h => absurd h (by decide)) (fun _ => ?_)
  refine zk_aload_n hX dX11_init_203 rfl ?_
  refine zk_getR (a := 95) hX dX11_init_204 flX11_68 (by decide) (by decide +kernel) rfl ?_
  refine zk_iload_n hX dX11_init_207 rfl ?_
  refine zk_new hX dX11_init_208 nwX11_66 (by decide) (by decide +kernel) (zvn68 108 (by decide)) ⟨by decide, by decide⟩ ?_
  refine zk_nr2 (n' := 109) (cells' := 108) (slots' := 990) (w' := zv68) (st' := [.ref 108, .int (4), .ref 95]) rfl rfl rfl rfl rfl ?_
  refine zk_dup hX dX11_init_211 rfl ?_
  refine zk_callIN (M' := mX0_init) hX dX11_init_212 kcX0_init mnX11_72 imX0_init ⟨rfl, rfl⟩ rfl (s_X0_init 108 _ (by decide) (by decide +kernel) (by decide +kernel) (by decide +kernel) (zvn68.le (by decide))) rfl rfl (Nat.le_of_ble_eq_true rfl) ⟨by decide, by decide⟩ (fun v w1 hq => ?_)
  obtain ⟨rfl, rfl⟩ := hq
  refine zk_nr2 (n' := 111) (cells' := 110) (slots' := 994) (w' := zv69) (st' := [.ref 108, .int (4), .ref 95]) rfl rfl rfl rfl rfl ?_
  refine zk_aast (t := 6) (L := 6) (c := 0) hX dX11_init_215 (by decide) (by decide) (by decide +kernel) (by decide +kernel) rfl rfl (show ¬ ((4 : Int32) < 0 ∨ 6 ≤ (4 : Int32).toNatClampNeg) by decide) ?_
  refine zk_nr2 (n' := 111) (cells' := 110) (slots' := 994) (w' := zv70) (st' := []) rfl rfl rfl rfl rfl ?_
  refine zk_iinc (v := 5) (lo' := [.ref 0, .int (5)]) hX dX11_init_216 rfl (by decide) (Nat.le_of_ble_eq_true rfl) rfl rfl ?_
  refine zk_goto (tgt := 197) hX dX11_init_219 (by decide) ?_
  refine zk_iload_n hX dX11_init_197 rfl ?_
  refine zk_bipush (v := 6) hX dX11_init_198 (by decide) ?_
  refine zk_icmp_ge (tgt := 222) hX dX11_init_200 (by decide) (fun h => absurd h (by decide)) (fun _ => ?_)
  refine zk_aload_n hX dX11_init_203 rfl ?_
  refine zk_getR (a := 95) hX dX11_init_204 flX11_68 (by decide) (by decide +kernel) rfl ?_
  refine zk_iload_n hX dX11_init_207 rfl ?_
  refine zk_new hX dX11_init_208 nwX11_66 (by decide) (by decide +kernel) (zvn70 111 (by decide)) ⟨by decide, by decide⟩ ?_
  refine zk_nr2 (n' := 112) (cells' := 111) (slots' := 998) (w' := zv70) (st' := [.ref 111, .int (5), .ref 95]) rfl rfl rfl rfl rfl ?_
  refine zk_dup hX dX11_init_211 rfl ?_
  refine zk_callIN (M' := mX0_init) hX dX11_init_212 kcX0_init mnX11_72 imX0_init ⟨rfl, rfl⟩ rfl (s_X0_init 111 _ (by decide) (by decide +kernel) (by decide +kernel) (by decide +kernel) (zvn70.le (by decide))) rfl rfl (Nat.le_of_ble_eq_true rfl) ⟨by decide, by decide⟩ (fun v w1 hq => ?_)
  obtain ⟨rfl, rfl⟩ := hq
  refine zk_nr2 (n' := 114) (cells' := 113) (slots' := 1002) (w' := zv71) (st' := [.ref 111, .int (5), .ref 95]) rfl rfl rfl rfl rfl ?_
  refine zk_aast (t := 6) (L := 6) (c := 0) hX dX11_init_215 (by decide) (by decide) (by decide +kernel) (by decide +kernel) rfl rfl (show ¬ ((5 : Int32) < 0 ∨ 6 ≤ (5 : Int32).toNatClampNeg) by decide) ?_
  refine zk_nr2 (n' := 114) (cells' := 113) (slots' := 1002) (w' := zv72) (st' := []) rfl rfl rfl rfl rfl ?_
  refine zk_iinc (v := 6) (lo' := [.ref 0, .int (6)]) hX dX11_init_216 rfl (by decide) (Nat.le_of_ble_eq_true rfl) rfl rfl ?_
  refine zk_goto (tgt := 197) hX dX11_init_219 (by decide) ?_
  refine zk_iload_n hX dX11_init_197 rfl ?_
  refine zk_bipush (v := 6) hX dX11_init_198 (by decide) ?_
  refine zk_icmp_ge (tgt := 222) hX dX11_init_200 (by decide) (fun _ => ?_) (fun h => absurd (by decide) h)
  refine zk_aload_n hX dX11_init_222 rfl ?_
  refine zk_new hX dX11_init_223 nwX11_73 (by decide) (by decide +kernel) (zvn72 114 (by decide)) ⟨by decide, by decide⟩ ?_
  refine zk_nr2 (n' := 115) (cells' := 114) (slots' := 1013) (w' := zv72) (st' := [.ref 114, .ref 0]) rfl rfl rfl rfl rfl ?_
  refine zk_dup hX dX11_init_226 rfl ?_
  refine zk_callIN (M' := mX4_init) hX dX11_init_227 kcX4_init mnX11_75 imX4_init ⟨rfl, rfl⟩ rfl (s_X4_init 114 _ (by decide) (by decide +kernel) (by decide +kernel) (by decide +kernel) (by decide +kernel) (by decide +kernel) (by decide +kernel) (by decide +kernel) (by decide +kernel) (by decide +kernel) (by decide) (zvn72.le (by decide))) rfl rfl (Nat.le_of_ble_eq_true rfl) ⟨by decide, by decide⟩ (fun v w1 hq => ?_)
  obtain ⟨rfl, rfl⟩ := hq
  refine zk_nr2 (n' := 131) (cells' := 130) (slots' := 1162) (w' := zv73) (st' := [.ref 114, .ref 0]) rfl rfl rfl rfl rfl ?_
  refine zk_putR hX dX11_init_230 plX11_76 (fun _ => rfl) (by decide) (by decide +kernel) rfl rfl ?_
  refine zk_nr2 (n' := 131) (cells' := 130) (slots' := 1162) (w' := zv74) (st' := []) rfl rfl rfl rfl rfl ?_
  refine zk_aload_n hX dX11_init_233 rfl ?_
  refine zk_new hX dX11_init_234 nwX11_80 (by decide) (by decide +kernel) (zvn74 131 (by decide)) ⟨by decide, by decide⟩ ?_
  refine zk_nr2 (n' := 132) (cells' := 131) (slots' := 1179) (w' := zv74) (st' := [.ref 131, .ref 0]) rfl rfl rfl rfl rfl ?_
  refine zk_dup hX dX11_init_237 rfl ?_
  refine zk_callIN (M' := mX6_init) hX dX11_init_238 kcX6_init mnX11_82 imX6_init ⟨rfl, rfl⟩ rfl (s_X6_init 131 _ (by decide) (by decide +kernel) (by decide +kernel) (by decide +kernel) (by decide +kernel) (by decide +kernel) (by decide +kernel) (by decide +kernel) (by decide +kernel) (by decide +kernel) (by decide +kernel) (by decide +kernel) (by decide +kernel) (by decide +kernel) (by decide +kernel) (by decide +kernel) (by decide +kernel) (zvn74.le (by decide))) rfl rfl (Nat.le_of_ble_eq_true rfl) ⟨by decide, by decide⟩ (fun v w1 hq => ?_)
  obtain ⟨rfl, rfl⟩ := hq
  refine zk_nr2 (n' := 147) (cells' := 146) (slots' := 24185) (w' := zv75) (st' := [.ref 131, .ref 0]) rfl rfl rfl rfl rfl ?_
  refine zk_putR hX dX11_init_241 plX11_83 (fun _ => rfl) (by decide) (by decide +kernel) rfl rfl ?_
  refine zk_nr2 (n' := 147) (cells' := 146) (slots' := 24185) (w' := zv76) (st' := []) rfl rfl rfl rfl rfl ?_
  refine zk_aload_n hX dX11_init_244 rfl ?_
  refine zk_new hX dX11_init_245 nwX11_87 (by decide) (by decide +kernel) (zvn76 147 (by decide)) ⟨by decide, by decide⟩ ?_
  refine zk_nr2 (n' := 148) (cells' := 147) (slots' := 24194) (w' := zv76) (st' := [.ref 147, .ref 0]) rfl rfl rfl rfl rfl ?_
  refine zk_dup hX dX11_init_248 rfl ?_
  refine zk_callIN (M' := mX10_init) hX dX11_init_249 kcX10_init mnX11_89 imX10_init ⟨rfl, rfl⟩ rfl (s_X10_init 147 _ (by decide) (by decide +kernel) (by decide +kernel) (by decide +kernel) (by decide +kernel) (by decide +kernel) (by decide +kernel) (by decide +kernel) (by decide +kernel) (by decide) (zvn76.le (by decide))) rfl rfl (Nat.le_of_ble_eq_true rfl) ⟨by decide, by decide⟩ (fun v w1 hq => ?_)
  obtain ⟨rfl, rfl⟩ := hq
  refine zk_nr2 (n' := 163) (cells' := 162) (slots' := 34530) (w' := zv77) (st' := [.ref 147, .ref 0]) rfl rfl rfl rfl rfl ?_
  refine zk_putR hX dX11_init_252 plX11_90 (fun _ => rfl) (by decide) (by decide +kernel) rfl rfl ?_
  refine zk_nr2 (n' := 163) (cells' := 162) (slots' := 34530) (w' := zv78) (st' := []) rfl rfl rfl rfl rfl ?_
  refine zk_aload_n hX dX11_init_255 rfl ?_
  refine zk_new hX dX11_init_256 nwX11_94 (by decide) (by decide +kernel) (zvn78 163 (by decide)) ⟨by decide, by decide⟩ ?_
  refine zk_nr2 (n' := 164) (cells' := 163) (slots' := 34532) (w' := zv78) (st' := [.ref 163, .ref 0]) rfl rfl rfl rfl rfl ?_
  refine zk_dup hX dX11_init_259 rfl ?_
  refine zk_callIN (M' := mX1_init) hX dX11_init_260 kcX1_init mnX11_96 imX1_init ⟨rfl, rfl⟩ rfl (s_X1_init 163 _ (by decide) (by decide +kernel) (zvn78.le (by decide))) rfl rfl (Nat.le_of_ble_eq_true rfl) ⟨by decide, by decide⟩ (fun v w1 hq => ?_)
  obtain ⟨rfl, rfl⟩ := hq
  refine zk_nr2 (n' := 164) (cells' := 163) (slots' := 34532) (w' := zv78) (st' := [.ref 163, .ref 0]) rfl rfl rfl rfl rfl ?_
  refine zk_putR hX dX11_init_263 plX11_97 (fun _ => rfl) (by decide) (by decide +kernel) rfl rfl ?_
  refine zk_nr2 (n' := 164) (cells' := 163) (slots' := 34532) (w' := zv79) (st' := []) rfl rfl rfl rfl rfl ?_
  refine zk_aload_n hX dX11_init_266 rfl ?_
  refine zk_new hX dX11_init_267 nwX11_94 (by decide) (by decide +kernel) (zvn79 164 (by decide)) ⟨by decide, by decide⟩ ?_
  refine zk_nr2 (n' := 165) (cells' := 164) (slots' := 34534) (w' := zv79) (st' := [.ref 164, .ref 0]) rfl rfl rfl rfl rfl ?_
  refine zk_dup hX dX11_init_270 rfl ?_
  refine zk_callIN (M' := mX1_init) hX dX11_init_271 kcX1_init mnX11_96 imX1_init ⟨rfl, rfl⟩ rfl (s_X1_init 164 _ (by decide) (by decide +kernel) (zvn79.le (by decide))) rfl rfl (Nat.le_of_ble_eq_true rfl) ⟨by decide, by decide⟩ (fun v w1 hq => ?_)
  obtain ⟨rfl, rfl⟩ := hq
  refine zk_nr2 (n' := 165) (cells' := 164) (slots' := 34534) (w' := zv79) (st' := [.ref 164, .ref 0]) rfl rfl rfl rfl rfl ?_
  refine zk_putR hX dX11_init_274 plX11_101 (fun _ => rfl) (by decide) (by decide +kernel) rfl rfl ?_
  refine zk_nr2 (n' := 165) (cells' := 164) (slots' := 34534) (w' := zv80) (st' := []) rfl rfl rfl rfl rfl ?_
  refine zk_aload_n hX dX11_init_277 rfl ?_
  refine zk_new hX dX11_init_278 nwX11_94 (by decide) (by decide +kernel) (zvn80 165 (by decide)) ⟨by decide, by decide⟩ ?_
  refine zk_nr2 (n' := 166) (cells' := 165) (slots' := 34536) (w' := zv80) (st' := [.ref 165, .ref 0]) rfl rfl rfl rfl rfl ?_
  refine zk_dup hX dX11_init_281 rfl ?_
  refine zk_callIN (M' := mX1_init) hX dX11_init_282 kcX1_init mnX11_96 imX1_init ⟨rfl, rfl⟩ rfl (s_X1_init 165 _ (by decide) (by decide +kernel) (zvn80.le (by decide))) rfl rfl (Nat.le_of_ble_eq_true rfl) ⟨by decide, by decide⟩ (fun v w1 hq => ?_)
  obtain ⟨rfl, rfl⟩ := hq
  refine zk_nr2 (n' := 166) (cells' := 165) (slots' := 34536) (w' := zv80) (st' := [.ref 165, .ref 0]) rfl rfl rfl rfl rfl ?_
  refine zk_putR hX dX11_init_285 plX11_104 (fun _ => rfl) (by decide) (by decide +kernel) rfl rfl ?_
  refine zk_nr2 (n' := 166) (cells' := 165) (slots' := 34536) (w' := zv81) (st' := []) rfl rfl rfl rfl rfl ?_
  exact zk_vret hX hE rfl ⟨rfl, rfl⟩ dX11_init_288 ⟨rfl, rfl⟩
