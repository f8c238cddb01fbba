/** The sentences of promises 11 to 20: the cloth. */
final class ClothEdges {
    private static final String[] PLAIN = {"#.", ".#"};

    private ClothEdges() {
    }

    static void check() {
        clothCounts();
        clothOfFloats();
        clothOfUsedOnes();
        clothOfShaftsThatWouldDo();
        clothOfTreadlesThatWouldDo();
        clothRefuses();
        fieldAnswers();
        fieldRefuses();
        floatsAnswers();
        floatsRefuses();
        whereAnswers();
        whereRefuses();
        upsAnswers();
        upsRefuses();
        seenAnswers();
        seenRefuses();
        repeatAnswers();
        hangsAnswers();
        reachAnswers();
        meanFloatAnswers();
    }

    private static TreadleLoom plain() {
        return Edges.picture(PLAIN);
    }

    private static TreadleLoom widestPlain() {
        int[] pairs = {Edges.OPEN, 0, 1, Edges.CLOSE, 28, Edges.TWICE};
        return Checks.loom(pairs, pairs);
    }

    private static TreadleLoom widestDown() {
        TreadleLoom loom = Edges.widest();
        loom.tie(0, 0);
        return loom;
    }

    private static TreadleLoom endsAlone() {
        return Edges.with(0, 0, 1, 1, 7);
    }

    private static TreadleLoom picksAlone() {
        return Edges.with(1, 7, 2, 2, 0, 1);
    }

    private static void clothCounts() {
        Sentences.ofPromise(11, "what: 0 how many ENDS, 1 PICKS, 2 FIELDS on which the END is UP,");
        countsAre(Edges.empty(), 0, 0, 0);
        countsAre(endsAlone(), 4, 0, 0);
        countsAre(picksAlone(), 0, 5, 0);
        countsAre(Edges.picture("#"), 1, 1, 1);
        countsAre(Edges.picture("."), 1, 1, 0);
        countsAre(Edges.sample(), 5, 4, 9);
        countsAre(Edges.widest(), 32, 32, 1024);
        countsAre(widestDown(), 32, 32, 0);
        countsAre(widestPlain(), 32, 32, 512);
        TreadleLoom loom = Edges.sample();
        loom.token(0, 28);
        countsAre(loom, 12, 4, 23);
        loom.token(0, 29);
        countsAre(loom, 0, 4, 0);
    }

    private static void countsAre(TreadleLoom loom, int... due) {
        for (int what = 0; what <= 2; what++) {
            Checks.is("cloth " + what, loom.cloth(what), due[what]);
        }
    }

    private static void clothOfFloats() {
        Sentences.ofPromise(11, "3 the longest FLOAT, 4 FLOATS of ENDS, 5 FLOATS of PICKS,");
        floatsAre(Edges.sample(), 3, 7, 8);
        floatsAre(plain(), 1, 2, 2);
        floatsAre(widestPlain(), 1, 512, 512);
        floatsAre(Edges.widest(), 32, 32, 0);
        floatsAre(widestDown(), 32, 0, 32);
        floatsAre(Edges.picture("#.", "#.", "##"), 3, 2, 2);
        floatsAre(Edges.picture("...", "###"), 3, 3, 1);
        Sentences.ofPromise(11, "Returns that (0 for 3 without any).");
        floatsAre(Edges.empty(), 0, 0, 0);
        floatsAre(endsAlone(), 0, 0, 0);
        floatsAre(picksAlone(), 0, 0, 0);
        floatsAre(Edges.picture("#"), 1, 1, 0);
        floatsAre(Edges.picture("."), 1, 0, 1);
    }

    private static void floatsAre(TreadleLoom loom, int longest, int ofEnds, int ofPicks) {
        Checks.is("the longest float", loom.cloth(3), longest);
        Checks.is("floats of ends", loom.cloth(4), ofEnds);
        Checks.is("floats of picks", loom.cloth(5), ofPicks);
    }

    private static void clothOfUsedOnes() {
        Sentences.ofPromise(11, "6 how many SHAFTS the THREADING uses, 7 TREADLES the TREADLING,");
        usesAre(Edges.empty(), 0, 0);
        usesAre(endsAlone(), 3, 0);
        usesAre(picksAlone(), 0, 4);
        usesAre(Edges.sample(), 4, 3);
        usesAre(Edges.widest(), 1, 1);
        TreadleLoom loom = Edges.with(0, 7, 6, 5, 4, 3, 2, 1, 0, Edges.MIRROR);
        Checks.write(loom, 1, 1, 2, 3, 4, 5, 6, 7, 0, 7);
        usesAre(loom, 8, 8);
        loom.twill(2, 1);
        usesAre(loom, 8, 8);
        loom.token(0, Edges.CLOSE);
        usesAre(loom, 0, 8);
    }

    private static void usesAre(TreadleLoom loom, int shafts, int treadles) {
        Checks.is("shafts", loom.cloth(6), shafts);
        Checks.is("treadles", loom.cloth(7), treadles);
    }

    private static void clothOfShaftsThatWouldDo() {
        Sentences.ofPromise(11, "8 how many SHAFTS would do (as many as there are sets of PICKS over which an END is"
                + " UP, for some END, each counted once; that without PICKS, too, if there is such an END),");
        Checks.is("without both", Edges.empty().cloth(8), 0);
        Checks.is("without ends", picksAlone().cloth(8), 0);
        Checks.is("ends without picks", endsAlone().cloth(8), 1);
        Checks.is("one", Edges.picture("#").cloth(8), 1);
        Checks.is("the set without picks alone", Edges.picture("..", "..").cloth(8), 1);
        Checks.is("that and another", Edges.picture("#.", "#.").cloth(8), 2);
        Checks.is("each counted once", Edges.picture("#.#.#.", ".#.#..").cloth(8), 3);
        Checks.is("all eight", Edges.picture("#.......", "##......", "###.....", "####....", "#####...", "######..",
                "#######.").cloth(8), 8);
        Checks.is("sets that differ in the last pick", Edges.picture("##", "##", "##", "##", "##", "##", "##", "#.")
                .cloth(8), 2);
        Checks.is("the widest", Edges.widest().cloth(8), 1);
        TreadleLoom last = Edges.with(0, 0, 1);
        Checks.write(last, 1, 2, 25, 26, 2, 0);
        last.tie(2, 3);
        Checks.is("sets that differ in the pick 31", last.cloth(8), 2);
    }

    private static void clothOfTreadlesThatWouldDo() {
        Sentences.ofPromise(11, "9 how many TREADLES would do (likewise, of ENDS that are UP over a PICK)");
        Checks.is("without both", Edges.empty().cloth(9), 0);
        Checks.is("without picks", endsAlone().cloth(9), 0);
        Checks.is("picks without ends", picksAlone().cloth(9), 1);
        Checks.is("one", Edges.picture(".").cloth(9), 1);
        Checks.is("the set without ends alone", Edges.picture("..", "..").cloth(9), 1);
        Checks.is("that and another", Edges.picture("##", "..").cloth(9), 2);
        Checks.is("each counted once", Edges.picture("#.#", ".#.", "#.#", "...", ".#.").cloth(9), 3);
        Checks.is("all eight", Edges.picture("#.......", "##......", "###.....", "####....", "#####...", "######..",
                "#######.", "########").cloth(9), 8);
        Checks.is("the widest", Edges.widest().cloth(9), 1);
        TreadleLoom last = Edges.with(0, 2, 25, 26, 2, 0);
        Checks.write(last, 1, 0, 1);
        last.tie(0, 4);
        last.tie(1, 5);
        Checks.is("sets that differ in the end 31", last.cloth(9), 2);
    }

    private static void clothRefuses() {
        Sentences.ofPromise(11, "Throws IllegalArgumentException if what is not 0 to 9");
        Edges.refusedOutside(0, 9, Checks.ARGUMENT, Edges::sample, (loom, what) -> loom.cloth(what));
        Edges.refusedOutside(0, 9, Checks.ARGUMENT, Edges::empty, (loom, what) -> loom.cloth(what));
        Edges.taken("the least", Edges::empty, loom -> loom.cloth(0));
        Edges.taken("the greatest", Edges::empty, loom -> loom.cloth(9));
    }

    private static void fieldAnswers() {
        Sentences.ofPromise(12, "end: an END - pick: a PICK - what: 0 whether the END is UP (1 or 0), 1 the COLOUR,");
        TreadleLoom loom = Edges.sample();
        String[] ups = {"10110", "01001", "01100", "01001"};
        String[] colours = {"51561", "26225", "36533", "16115"};
        for (int pick = 0; pick <= 3; pick++) {
            for (int end = 0; end <= 4; end++) {
                Checks.is("up " + end + " " + pick, loom.field(end, pick, 0), ups[pick].charAt(end) - '0');
                Checks.is("colour " + end + " " + pick, loom.field(end, pick, 1), colours[pick].charAt(end) - '0');
            }
        }
        TreadleLoom most = widestPlain();
        Checks.write(most, 2, Edges.thirtyTwo(7));
        Checks.is("the last field is up", most.field(31, 31, 0), 1);
        Checks.is("its colour", most.field(31, 31, 1), 7);
        Checks.is("the one beside it is not", most.field(30, 31, 0), 0);
        Checks.is("its colour", most.field(30, 31, 1), 0);
        fieldOfFloats();
    }

    private static void fieldOfFloats() {
        Sentences.ofPromise(12, "2 how long the FLOAT is that lies there, of the END, if it is UP, otherwise of the"
                + " PICK Returns that.");
        lengthsAre("11111/13221/13122/13221", Edges.sample());
        lengthsAre("1", Edges.picture("#"));
        lengthsAre("1", Edges.picture("."));
        lengthsAre("3/3/3/1/2/2", Edges.picture("#", "#", "#", ".", "#", "#"));
        lengthsAre("3331221", Edges.picture("...#..#"));
        lengthsAre("222/212/222", Edges.picture("..#", "#.#", "#.."));
        for (TreadleLoom loom : new TreadleLoom[] {Edges.widest(), widestDown()}) {
            for (int place : new int[] {0, 1, 15, 30, 31}) {
                Checks.is("of the longest", loom.field(place, 31 - place, 2), 32);
            }
        }
    }

    private static void lengthsAre(String due, TreadleLoom loom) {
        StringBuilder lines = new StringBuilder();
        int ends = loom.cloth(0);
        int picks = loom.cloth(1);
        for (int pick = 0; pick < picks; pick++) {
            lines.append(pick == 0 ? "" : "/");
            for (int end = 0; end < ends; end++) {
                lines.append(loom.field(end, pick, 2));
            }
        }
        Checks.is("lengths", lines.toString(), due);
    }

    private static void fieldRefuses() {
        Sentences.ofPromise(12, "Throws IndexOutOfBoundsException if there is no such END, or PICK");
        for (int what : new int[] {0, 1, 2, -1, 3}) {
            Edges.refusedOutside(0, 4, Checks.INDEX, Edges::sample, (loom, end) -> loom.field(end, 3, what));
            Edges.refusedOutside(0, 3, Checks.INDEX, Edges::sample, (loom, pick) -> loom.field(4, pick, what));
            Edges.refusedOutside(0, 3, Checks.INDEX, Edges::sample, (loom, pick) -> loom.field(-1, pick, what));
            Checks.refused("without both", Checks.INDEX, Edges::empty, loom -> loom.field(0, 0, what));
            Checks.refused("without picks", Checks.INDEX, ClothEdges::endsAlone, loom -> loom.field(3, 0, what));
            Checks.refused("without ends", Checks.INDEX, ClothEdges::picksAlone, loom -> loom.field(0, 4, what));
        }
        Edges.refusedOutside(0, 31, Checks.INDEX, Edges::widest, (loom, end) -> loom.field(end, 31, 0));
        Edges.refusedOutside(0, 31, Checks.INDEX, Edges::widest, (loom, pick) -> loom.field(31, pick, 0));
        Sentences.ofPromise(12, "Throws IllegalArgumentException if what is not 0 to 2");
        Edges.refusedOutside(0, 2, Checks.ARGUMENT, Edges::sample, (loom, what) -> loom.field(0, 0, what));
        Edges.refusedOutside(0, 2, Checks.ARGUMENT, Edges::sample, (loom, what) -> loom.field(4, 3, what));
    }

    private static void floatsAnswers() {
        Sentences.ofPromise(13, "length: a length Returns how many FLOATS there are that are so long, or longer.");
        TreadleLoom loom = Edges.picture("#", "#", ".", "#", "#", "#", ".", "#");
        int[] due = {5, 2, 1, 0};
        for (int length = 1; length <= 4; length++) {
            Checks.is("floats " + length, loom.floats(length), due[length - 1]);
        }
        Checks.is("of both", Edges.sample().floats(1), 15);
        Checks.is("of both", Edges.sample().floats(2), 4);
        Checks.is("of both", Edges.sample().floats(3), 1);
        Checks.is("the most", widestPlain().floats(1), 1024);
        Checks.is("none longer", widestPlain().floats(2), 0);
        for (int length : new int[] {1, 2, 16, 31, 32}) {
            Checks.is("ends of 32", Edges.widest().floats(length), 32);
            Checks.is("picks of 32", widestDown().floats(length), 32);
            Checks.is("without both", Edges.empty().floats(length), 0);
            Checks.is("without picks", endsAlone().floats(length), 0);
            Checks.is("without ends", picksAlone().floats(length), 0);
        }
        TreadleLoom almost = Edges.with(0, 0);
        Checks.write(almost, 1, 0, 25, 26, 0, 1);
        Checks.is("one of 31", almost.floats(31), 1);
        Checks.is("none of 32", almost.floats(32), 0);
    }

    private static void floatsRefuses() {
        Sentences.ofPromise(13, "Throws IllegalArgumentException if length is not 1 to 32");
        Edges.refusedOutside(1, 32, Checks.ARGUMENT, Edges::sample, (loom, length) -> loom.floats(length));
        Edges.refusedOutside(1, 32, Checks.ARGUMENT, Edges::widest, (loom, length) -> loom.floats(length));
        Edges.refusedOutside(1, 32, Checks.ARGUMENT, Edges::empty, (loom, length) -> loom.floats(length));
    }

    private static void whereAre(TreadleLoom loom, boolean isEnd, int... due) {
        for (int length = 1; length <= due.length; length++) {
            Checks.is("where " + length + " " + isEnd, loom.where(length, isEnd), due[length - 1]);
        }
    }

    private static void whereAnswers() {
        Sentences.ofPromise(14, "length: a length - isEnd: whether the first FLOAT of an END is meant, otherwise of a"
                + " PICK Returns where the first FLOAT begins that is so long, or longer, as 100 * its END + its PICK:"
                + " by ENDS, then by PICKS, of ENDS; by PICKS, then by ENDS, of PICKS; -1 without one.");
        whereAre(Edges.picture(".#", "#."), true, 1, -1);
        whereAre(Edges.picture(".#", "#."), false, 0, -1);
        whereAre(Edges.picture("#.", ".#"), true, 0, -1);
        whereAre(Edges.picture("#.", ".#"), false, 100, -1);
        whereAre(Edges.picture("#", ".", "#", "#", ".", "#", "#", "#"), true, 0, 2, 5, -1);
        whereAre(Edges.picture(".#..#..."), false, 0, 200, 500, -1);
        whereAre(Edges.picture(".#", "##", "#.", ".."), true, 1, 1, -1);
        whereAre(Edges.picture(".###", "#..#", "##.#", "...."), false, 0, 101, 3, 3, -1);
        whereAre(Edges.sample(), true, 0, 101, 101, -1);
        whereAre(Edges.sample(), false, 100, 201, -1);
        whereAtTheLastPlaces();
        for (int length : new int[] {1, 2, 31, 32}) {
            for (boolean isEnd : new boolean[] {true, false}) {
                Checks.is("the widest, up", Edges.widest().where(length, isEnd), isEnd ? 0 : -1);
                Checks.is("the widest, down", widestDown().where(length, isEnd), isEnd ? -1 : 0);
                Checks.is("without both", Edges.empty().where(length, isEnd), -1);
                Checks.is("without picks", endsAlone().where(length, isEnd), -1);
                Checks.is("without ends", picksAlone().where(length, isEnd), -1);
            }
        }
    }

    private static void whereAtTheLastPlaces() {
        TreadleLoom up = Edges.with(0, 0, 25, 26, 0, 1);
        Checks.write(up, 1, Edges.thirtyTwo(1));
        Checks.is("the last end", up.where(32, true), 3100);
        Checks.is("the first pick", up.where(31, false), 0);
        Checks.is("no pick of 32", up.where(32, false), -1);
        up.untoken(1, 40);
        Checks.write(up, 1, 3, 25, 26, 3, 1);
        Checks.is("the last end and the last pick", up.where(1, true), 3131);
        TreadleLoom down = Edges.with(0, 0, 25, 26, 0, 1);
        Checks.write(down, 1, 3, 25, 26, 3, 0);
        down.tie(3, 3);
        Checks.is("the last pick and the last end", down.where(1, false), 3131);
        Checks.is("of ends", down.where(32, true), 0);
        down.tie(0, 0);
        Checks.is("the last pick", down.where(32, false), 31);
        Checks.is("of ends without it", down.where(31, true), 0);
    }

    private static void whereRefuses() {
        Sentences.ofPromise(14, "Throws IllegalArgumentException if length is not 1 to 32");
        for (boolean isEnd : new boolean[] {true, false}) {
            Edges.refusedOutside(1, 32, Checks.ARGUMENT, Edges::sample, (loom, length) -> loom.where(length, isEnd));
            Edges.refusedOutside(1, 32, Checks.ARGUMENT, Edges::empty, (loom, length) -> loom.where(length, isEnd));
            Edges.taken("the greatest", Edges::empty, loom -> loom.where(32, isEnd));
        }
    }

    private static void upsAre(TreadleLoom loom, boolean isEnd, int... due) {
        for (int place = 0; place < due.length; place++) {
            Checks.is("ups " + place + " " + isEnd, loom.ups(place, isEnd), due[place]);
        }
    }

    private static void upsAnswers() {
        Sentences.ofPromise(15, "end: an END - isEnd: whether it is an END, otherwise a PICK Returns over how many"
                + " PICKS the END is UP, or how many ENDS are UP over the PICK.");
        upsAre(Edges.sample(), true, 1, 3, 2, 1, 2);
        upsAre(Edges.sample(), false, 3, 2, 2, 2);
        upsAre(Edges.picture("#.#", "#.."), true, 2, 0, 1);
        upsAre(Edges.picture("#.#", "...", "###"), false, 2, 0, 3);
        upsAre(endsAlone(), true, 0, 0, 0, 0);
        upsAre(picksAlone(), false, 0, 0, 0, 0, 0);
        for (int place : new int[] {0, 15, 31}) {
            for (boolean isEnd : new boolean[] {true, false}) {
                Checks.is("all", Edges.widest().ups(place, isEnd), 32);
                Checks.is("none", widestDown().ups(place, isEnd), 0);
                Checks.is("half", widestPlain().ups(place, isEnd), 16);
            }
        }
    }

    private static void upsRefuses() {
        Sentences.ofPromise(15, "Throws IndexOutOfBoundsException if there is no such END, or PICK");
        Edges.refusedOutside(0, 4, Checks.INDEX, Edges::sample, (loom, end) -> loom.ups(end, true));
        Edges.refusedOutside(0, 3, Checks.INDEX, Edges::sample, (loom, pick) -> loom.ups(pick, false));
        Edges.refusedOutside(0, 3, Checks.INDEX, ClothEdges::endsAlone, (loom, end) -> loom.ups(end, true));
        Edges.refusedOutside(0, 4, Checks.INDEX, ClothEdges::picksAlone, (loom, pick) -> loom.ups(pick, false));
        Checks.refused("no pick", Checks.INDEX, ClothEdges::endsAlone, loom -> loom.ups(0, false));
        Checks.refused("no end", Checks.INDEX, ClothEdges::picksAlone, loom -> loom.ups(0, true));
        for (boolean isEnd : new boolean[] {true, false}) {
            Edges.refusedOutside(0, 31, Checks.INDEX, Edges::widest, (loom, place) -> loom.ups(place, isEnd));
            Checks.refused("without both", Checks.INDEX, Edges::empty, loom -> loom.ups(0, isEnd));
        }
    }

    private static void seenAre(TreadleLoom loom, int... due) {
        for (int colour = 0; colour <= 7; colour++) {
            Checks.is("seen " + colour, loom.seen(colour), due[colour]);
        }
    }

    private static void seenAnswers() {
        Sentences.ofPromise(16, "colour: a COLOUR Returns on how many FIELDS it is seen.");
        seenAre(Edges.sample(), 0, 5, 3, 3, 0, 5, 4, 0);
        seenAre(Edges.empty(), 0, 0, 0, 0, 0, 0, 0, 0);
        seenAre(endsAlone(), 0, 0, 0, 0, 0, 0, 0, 0);
        seenAre(picksAlone(), 0, 0, 0, 0, 0, 0, 0, 0);
        seenAre(Edges.widest(), 1024, 0, 0, 0, 0, 0, 0, 0);
        TreadleLoom loom = widestPlain();
        loom.token(2, 7);
        seenAre(loom, 512, 0, 0, 0, 0, 0, 0, 512);
        loom.token(3, 7);
        seenAre(loom, 0, 0, 0, 0, 0, 0, 0, 1024);
        loom.token(2, 3);
        seenAre(loom, 0, 0, 0, 256, 0, 0, 0, 768);
        TreadleLoom all = Edges.picture("########");
        Checks.write(all, 2, 0, 1, 2, 3, 4, 5, 6, 7);
        seenAre(all, 1, 1, 1, 1, 1, 1, 1, 1);
    }

    private static void seenRefuses() {
        Sentences.ofPromise(16, "Throws IllegalArgumentException if colour is not 0 to 7");
        Edges.refusedOutside(0, 7, Checks.ARGUMENT, Edges::sample, (loom, colour) -> loom.seen(colour));
        Edges.refusedOutside(0, 7, Checks.ARGUMENT, Edges::empty, (loom, colour) -> loom.seen(colour));
    }

    private static void repeatsAre(TreadleLoom loom, int overEnds, int overPicks) {
        Checks.is("repeat over ends", loom.repeat(true), overEnds);
        Checks.is("repeat over picks", loom.repeat(false), overPicks);
    }

    private static void repeatAnswers() {
        Sentences.ofPromise(17, "isAcross: whether it is over ENDS, otherwise over PICKS Returns after how many ENDS"
                + " (or PICKS) the cloth comes again, COLOURS aside: as with period(); 0 without FIELDS.");
        repeatsAre(Edges.empty(), 0, 0);
        repeatsAre(endsAlone(), 0, 0);
        repeatsAre(picksAlone(), 0, 0);
        repeatsAre(Edges.picture("#"), 1, 1);
        repeatsAre(Edges.picture("."), 1, 1);
        repeatsAre(Edges.picture("##", "##", "##"), 1, 1);
        repeatsAre(Edges.picture("#..#..#", ".#..#.."), 3, 2);
        repeatsAre(Edges.picture("#.", "..", ".#", "#."), 2, 3);
        repeatsAre(Edges.picture("####.", "#####"), 5, 2);
        repeatsAre(Edges.widest(), 1, 1);
        repeatsAre(widestPlain(), 2, 2);
        TreadleLoom last = Edges.with(0, 0, 25, 26, 0, 1);
        Checks.write(last, 1, 0, 25, 26, 0, 1);
        repeatsAre(last, 32, 32);
        Checks.write(last, 2, 1, 2, 3);
        Checks.write(last, 3, 3, 2, 1);
        repeatsAre(last, 32, 32);
        last.twill(2, 2);
        repeatsAre(last, 1, 1);
    }

    private static void hangsAnswers() {
        Sentences.ofPromise(18, "Returns whether the cloth HANGS together.");
        Checks.is("the plain weave", plain().hangs(), true);
        Checks.is("the sample", Edges.sample().hangs(), true);
        Checks.is("a new one", Edges.empty().hangs(), false);
        TreadleLoom loom = plain();
        loom.tie(0, 0);
        Checks.is("with the end 0 never up", loom.hangs(), false);
        loom.tie(0, 1);
        Checks.is("as before", loom.hangs(), true);
        loom.token(0, Edges.CLOSE);
        Checks.is("with a fault", loom.hangs(), false);
    }

    private static void reachIs(TreadleLoom loom, int ends, int picks) {
        Checks.is("reach of ends", loom.reach(true), ends);
        Checks.is("reach of picks", loom.reach(false), picks);
    }

    private static void reachAnswers() {
        Sentences.ofPromise(19, "isEnd: whether ENDS are meant, otherwise PICKS Returns how many of them one comes to"
                + " from the END 0, itself, too (0 without FIELDS).");
        reachIs(Edges.empty(), 0, 0);
        reachIs(endsAlone(), 0, 0);
        reachIs(picksAlone(), 0, 0);
        reachIs(Edges.picture("#"), 1, 1);
        reachIs(Edges.picture("."), 1, 0);
        reachIs(Edges.picture(".#", ".#"), 1, 0);
        reachIs(Edges.picture("##", "##"), 1, 2);
        reachIs(Edges.picture("#.", "#."), 2, 2);
        reachIs(Edges.picture("#..", ".#."), 3, 2);
        reachIs(Edges.picture("#.#", ".##"), 2, 2);
        reachIs(Edges.picture("#...", ".#..", "###.", "##.#"), 4, 4);
        reachIs(Edges.picture("..#.", "...#", "#.##", ".###"), 2, 2);
        reachIs(Edges.picture("#.######", ".#.#####", "..#.####", "...#.###", "....#.##", ".....#.#", "......#.",
                ".......#"), 8, 8);
        reachIs(Edges.picture("#.######", ".#.#####", "..#.####", "...#.###", "....#.##", ".....#.#", "......##",
                ".......#"), 7, 7);
        reachIs(widestPlain(), 32, 32);
        reachIs(Edges.widest(), 1, 32);
        reachIs(widestDown(), 1, 0);
    }

    private static void meanFloatAnswers() {
        Sentences.ofPromise(20, "Returns the mean length of all FLOATS, not cut; 0 without any.");
        Checks.is("without both", Edges.empty().meanFloat(), 0.0);
        Checks.is("without picks", endsAlone().meanFloat(), 0.0);
        Checks.is("without ends", picksAlone().meanFloat(), 0.0);
        Checks.is("the least", Edges.picture("#").meanFloat(), 1.0);
        Checks.is("of a pick", Edges.picture(".").meanFloat(), 1.0);
        Checks.is("the greatest", Edges.widest().meanFloat(), 32.0);
        Checks.is("the greatest of picks", widestDown().meanFloat(), 32.0);
        Checks.is("the widest plain weave", widestPlain().meanFloat(), 1.0);
        Checks.is("a half", Edges.picture("#..").meanFloat(), 1.5);
        Checks.is("a third", Edges.picture("#.", "##").meanFloat(), 4.0 / 3.0);
        Checks.is("two thirds", Edges.picture("##...").meanFloat(), 5.0 / 3.0);
        Checks.is("the sample", Edges.sample().meanFloat(), 20.0 / 15.0);
    }
}
