/** The sentences of promises 7 to 10: the tie-up. */
final class LoomEdges {
    private LoomEdges() {
    }

    static void check() {
        tieTies();
        tieRefuses();
        tiedAnswers();
        twillTies();
        twillCounts();
        twillRefuses();
        swapChanges();
        swapCounts();
        swapRefuses();
    }

    /** Nothing of the ties is one like another, nor the same with two shafts changed. */
    private static TreadleLoom tiedUp() {
        TreadleLoom loom = Edges.sample();
        int[] ties = {1, 3, 7, 15, 31, 63, 127, 254};
        for (int treadle = 0; treadle <= 7; treadle++) {
            loom.tie(treadle, ties[treadle]);
        }
        return loom;
    }

    private static void tieTies() {
        Sentences.ofPromise(7, "treadle: a TREADLE - shafts: the set of SHAFTS to which it is TIED from now on"
                + " Returns the one before.");
        for (int treadle = 0; treadle <= 7; treadle++) {
            TreadleLoom loom = new TreadleLoom();
            int before = 1 << treadle;
            for (int shafts : new int[] {255, 0, 1, 128, 254, 127, 127}) {
                Checks.is("the one before", loom.tie(treadle, shafts), before);
                Checks.is("tied", loom.tied(treadle), shafts);
                before = shafts;
            }
            for (int other = 0; other <= 7; other++) {
                Checks.is("tied to " + other, loom.tied(other), other == treadle ? 127 : 1 << other);
            }
        }
        TreadleLoom loom = Edges.picture("#.#", ".#.");
        loom.tie(0, 255);
        Checks.is("the cloth", Edges.pictureOf(loom), "###/.#.");
        loom.tie(1, 0);
        Checks.is("the cloth then", Edges.pictureOf(loom), "###/...");
        loom.tie(7, 7);
        Checks.is("the cloth, as before", Edges.pictureOf(loom), "###/...");
    }

    private static void tieRefuses() {
        Sentences.ofPromise(7, "Throws IndexOutOfBoundsException if there is no such TREADLE");
        for (int shafts : new int[] {0, 255, -1, 256, Integer.MIN_VALUE, Integer.MAX_VALUE}) {
            Edges.refusedOutside(0, 7, Checks.INDEX, LoomEdges::tiedUp, (loom, treadle) -> loom.tie(treadle, shafts));
        }
        Sentences.ofPromise(7, "Throws IllegalArgumentException if shafts is not 0 to 255");
        for (int treadle = 0; treadle <= 7; treadle++) {
            int own = treadle;
            Edges.refusedOutside(0, 255, Checks.ARGUMENT, LoomEdges::tiedUp, (loom, shafts) -> loom.tie(own, shafts));
        }
    }

    private static void tiedAnswers() {
        Sentences.ofPromise(8, "treadle: a TREADLE Returns the set of SHAFTS to which it is TIED.");
        Checks.is("at first", Checks.tiesOf(Edges.empty()), "[1, 2, 4, 8, 16, 32, 64, 128]");
        Checks.is("then", Checks.tiesOf(tiedUp()), "[1, 3, 7, 15, 31, 63, 127, 254]");
        Sentences.ofPromise(8, "Throws IndexOutOfBoundsException if there is no such TREADLE");
        Edges.refusedOutside(0, 7, Checks.INDEX, LoomEdges::tiedUp, (loom, treadle) -> loom.tied(treadle));
    }

    private static int twillOf(int treadle, int n, int up) {
        int shafts = 0;
        for (int i = 0; treadle < n && i <= up - 1; i++) {
            shafts += 1 << (treadle + i) % n;
        }
        return shafts;
    }

    private static void twillTies() {
        Sentences.ofPromise(9, "Ties all TREADLES anew: the TREADLE k to the SHAFTS (k + i) % n, for each i from 0 to"
                + " up - 1;");
        for (int n = 2; n <= 8; n++) {
            for (int up = 1; up <= n; up++) {
                TreadleLoom loom = tiedUp();
                loom.twill(n, up);
                for (int treadle = 0; treadle < n; treadle++) {
                    Checks.is("twill " + n + " " + up, loom.tied(treadle), twillOf(treadle, n, up));
                }
            }
        }
        TreadleLoom loom = Edges.picture("#...", "#...", "#...", "#...");
        loom.twill(4, 2);
        Checks.is("its ties", Checks.tiesOf(loom), "[3, 6, 12, 9, 0, 0, 0, 0]");
        Checks.is("the cloth", Edges.pictureOf(loom), "##../.##./..##/#..#");
    }

    private static void twillCounts() {
        Sentences.ofPromise(9, "those from n on to none (they count, too, if they were TIED).");
        for (int n = 2; n <= 8; n++) {
            TreadleLoom loom = tiedUp();
            loom.twill(n, 1);
            for (int treadle = n; treadle <= 7; treadle++) {
                Checks.is("treadle " + treadle + " of " + n, loom.tied(treadle), 0);
            }
            Checks.is("those that were tied to none", loom.twill(n, 1), 0);
            for (int treadle = n; treadle <= 7; treadle++) {
                loom.tie(treadle, 128);
            }
            Checks.is("those that were tied", loom.twill(n, 1), 8 - n);
        }
        Sentences.ofPromise(9, "- n: n - up: up Returns how many TREADLES are TIED to another set than before.");
        Checks.is("none", Edges.empty().twill(8, 1), 0);
        Checks.is("all but one", tiedUp().twill(8, 1), 7);
        Checks.is("all", Edges.empty().twill(8, 8), 8);
        Checks.is("the least", Edges.empty().twill(2, 1), 6);
        Checks.is("n itself", Edges.empty().twill(2, 2), 8);
        TreadleLoom loom = Edges.empty();
        loom.twill(5, 3);
        Checks.is("the same again", loom.twill(5, 3), 0);
        loom.tie(0, 0);
        loom.tie(7, 1);
        Checks.is("two", loom.twill(5, 3), 2);
        Checks.is("from more shafts to less", loom.twill(5, 2), 5);
    }

    private static void twillRefuses() {
        Sentences.ofPromise(9, "Throws IllegalArgumentException if n is not 2 to 8, or up is not 1 to n");
        for (int up : new int[] {1, 2, 0, 9}) {
            Edges.refusedOutside(2, 8, Checks.ARGUMENT, LoomEdges::tiedUp, (loom, n) -> loom.twill(n, up));
        }
        for (int n = 2; n <= 8; n++) {
            int own = n;
            Edges.taken("up 1", LoomEdges::tiedUp, loom -> loom.twill(own, 1));
            Edges.taken("up n", LoomEdges::tiedUp, loom -> loom.twill(own, own));
            Edges.refusedOutside(1, n, Checks.ARGUMENT, LoomEdges::tiedUp, (loom, up) -> loom.twill(own, up));
        }
        for (int same : new int[] {1, 9, 0, -1}) {
            Checks.refused("n and up " + same, Checks.ARGUMENT, LoomEdges::tiedUp, loom -> loom.twill(same, same));
        }
    }

    private static int swapped(int shafts, int one, int other) {
        int now = shafts & ~(1 << one) & ~(1 << other);
        now |= (shafts & 1 << one) != 0 ? 1 << other : 0;
        return now | ((shafts & 1 << other) != 0 ? 1 << one : 0);
    }

    private static void swapChanges() {
        Sentences.ofPromise(10, "Changes two SHAFTS one for the other in the tie-up of all TREADLES.");
        for (int one = 0; one <= 7; one++) {
            for (int other = 0; other <= 7; other++) {
                TreadleLoom before = tiedUp();
                TreadleLoom loom = tiedUp();
                int due = 0;
                loom.swap(one, other);
                for (int treadle = 0; treadle <= 7; treadle++) {
                    int now = swapped(before.tied(treadle), one, other);
                    due += now == before.tied(treadle) ? 0 : 1;
                    Checks.is("swap " + one + " " + other, loom.tied(treadle), now);
                }
                Checks.is("how many", tiedUp().swap(one, other), due);
            }
        }
        TreadleLoom loom = Edges.picture("#.##", ".#..", "....", "####");
        loom.swap(0, 3);
        Checks.is("the same cloth", Edges.pictureOf(loom), "#.##/.#../..../####");
        loom.swap(1, 3);
        Checks.is("the cloth", Edges.pictureOf(loom), "###./...#/..../####");
        loom.swap(0, 7);
        Checks.is("with a shaft without ends", Edges.pictureOf(loom), ".##./...#/..../.###");
    }

    private static void swapCounts() {
        Sentences.ofPromise(10, "- one: a SHAFT - other: a SHAFT Returns how many TREADLES are TIED to another set than"
                + " before.");
        Checks.is("the least and the greatest", Edges.empty().swap(0, 7), 2);
        Checks.is("the greatest and the least", Edges.empty().swap(7, 0), 2);
        for (int shaft = 0; shaft <= 7; shaft++) {
            Checks.is("one with itself", tiedUp().swap(shaft, shaft), 0);
        }
        TreadleLoom loom = Edges.empty();
        for (int treadle = 0; treadle <= 7; treadle++) {
            loom.tie(treadle, 1);
        }
        Checks.is("all", loom.swap(0, 7), 8);
        Checks.is("all back", loom.swap(0, 7), 8);
        loom.tie(3, 129);
        loom.tie(4, 0);
        Checks.is("but those with both or none", loom.swap(7, 0), 6);
        Checks.is("two that are nowhere", loom.swap(3, 4), 0);
    }

    private static void swapRefuses() {
        Sentences.ofPromise(10, "Throws IndexOutOfBoundsException if there is no such SHAFT");
        for (int good : new int[] {0, 7}) {
            Edges.refusedOutside(0, 7, Checks.INDEX, LoomEdges::tiedUp, (loom, one) -> loom.swap(one, good));
            Edges.refusedOutside(0, 7, Checks.INDEX, LoomEdges::tiedUp, (loom, other) -> loom.swap(good, other));
        }
        Edges.refusedOutside(0, 7, Checks.INDEX, LoomEdges::tiedUp, (loom, both) -> loom.swap(both, both));
    }
}
