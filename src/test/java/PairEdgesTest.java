import java.util.ArrayList;
import java.util.List;

/** Boundary cases of promises 11 to 13, sentence by sentence. */
public final class PairEdgesTest {
    private static final Sentences S = new Sentences();

    public static void main(String[] args) {
        pairAnswers();
        pairRefuses();
        partsAnswers();
        partsRefuses();
        spanAnswers();
        S.end();
    }

    private static List<String> corners() {
        List<String> rows = new ArrayList<>();
        for (int id = 0; id < 16; id++) {
            StringBuilder row = new StringBuilder("put " + id);
            for (int bit = 1; bit < 16; bit *= 2) {
                row.append((id & bit) == 0 ? " -10000" : " 10000");
            }
            rows.add(row.toString());
        }
        return rows;
    }

    private static List<String> sixty(int apart) {
        List<String> rows = new ArrayList<>();
        for (int i = 0; i < 60; i++) {
            rows.add("put " + (99 - i) + " " + i * apart);
        }
        return rows;
    }

    private static void pairAnswers() {
        String words = "Of the two LIVE POINTS with the least DISTANCE, of several those with the least ID, then the least other ID: "
            + "0 the lesser ID, 1 the greater, 2 the DISTANCE";
        S.of("Promise 11", words, "just two, whichever came first");
        S.run(1, "put 9 0", "put 3 5", "pair: 3 9 25");
        S.run(1, "put 3 0", "put 9 5", "pair: 3 9 25");
        S.of("Promise 11", words, "the IDS 0 and 99, as far as can be");
        S.run(4, "put 99 -10000 -10000 -10000 -10000", "put 0 10000 10000 10000 10000", "pair: 0 99 1600000000");
        S.of("Promise 11", words, "at one place: 0");
        S.run(2, "put 8 7 7", "put 5 7 7", "pair: 5 8 0");
        S.of("Promise 11", words, "the least DISTANCE goes ahead of the least ID");
        S.run(1, "put 0 0", "put 1 10", "put 98 100", "put 99 109", "pair: 98 99 81");
        S.of("Promise 11", words, "of several those with the least ID");
        S.run(1, "put 8 0", "put 5 1", "put 2 100", "put 9 101", "put 3 200", "put 4 201", "pair: 2 9 1");
        S.of("Promise 11", words, "then the least other ID");
        S.run(1, "put 5 0", "put 8 1", "put 7 -1", "pair: 5 7 1");
        S.run(1, "put 2 0", "put 8 0", "put 7 0", "put 9 0", "pair: 2 7 0");
        S.of("Promise 11", words, "the least ID of a pair, not of any POINT");
        S.run(1, "put 0 5000", "put 7 0", "put 8 1", "put 9 2", "pair: 7 8 1");
        S.of("Promise 11", words, "LIVE ones alone");
        S.run(1, "put 1 0", "put 2 1", "put 3 5", "drop 1", "pair: 2 3 16", "put 1 100", "pair: 2 3 16", "drop 3", "pair: 1 2 9801");
        S.of("Promise 11", words, "of sixty, the last two by IDS and the first two");
        S.run(1, sixty(3), "pair: 40 41 9", "drop 41", "put 41 1", "pair: 41 99 1", "drop 40", "put 40 0", "pair: 40 99 0");
    }

    private static void pairRefuses() {
        for (String what : new String[] {"-1", "3", "min", "max"}) {
            S.of("Promise 11", "IllegalArgumentException: what", "what " + what);
            S.run(1, "put 0 0", "put 1 1", "pair " + what + " = argument", "pair: 0 1 1");
        }
        String words = "IllegalStateException: fewer than two are LIVE";
        S.of("Promise 11", words, "none");
        S.run(1, "pair: state state state");
        S.of("Promise 11", words, "one");
        S.run(1, "put 5", "pair: state state state");
        S.of("Promise 11", words, "two: no more");
        S.run(1, "put 5", "put 6", "pair: 5 6 0");
        S.of("Promise 11", words, "one LIVE and one DEAD");
        S.run(1, "put 5", "put 6", "drop 5", "count 2 = 2", "pair: state state state", "put 7 3", "pair: 6 7 9");
        S.of("Promise 11", words, "behind the last one that went");
        S.run(1, "put 5", "put 6", "drop 5", "drop 6", "pair: state state state");
    }

    private static void partsAnswers() {
        String words = "How many parts of LIVE POINTS hang together, if each two whose DISTANCE is most or less do";
        S.of("Promise 12", words, "none: 0");
        S.run(1, "parts 0 = 0", "parts MAX = 0", "put 1", "drop 1", "parts 0 = 0", "parts MAX = 0");
        S.of("Promise 12", words, "one: 1");
        S.run(1, "put 1 5", "parts 0 = 1", "parts MAX = 1");
        S.of("Promise 12", words, "most 0: those at one place");
        S.run(2, "put 1 5 5", "put 2 5 5", "put 3 5 6", "parts 0 = 2", "drop 2", "parts 0 = 2", "drop 1", "parts 0 = 1");
        S.of("Promise 12", words, "just most, one less, one more");
        S.run(2, "put 1 0 0", "put 2 3 4", "parts 25 = 1", "parts 24 = 2", "parts 26 = 1");
        S.of("Promise 12", words, "most as large as a long can be, and beyond an int");
        S.run(4, "put 1 -10000 -10000 -10000 -10000", "put 2 10000 10000 10000 10000", "parts MAX = 1", "parts 1600000000 = 1", "parts 1599999999 = 2",
            "parts 2147483648 = 1", "parts 4294967296 = 1", "parts 4294967297 = 1");
        S.of("Promise 12", words, "by others between them");
        S.run(1, "put 1 0", "put 2 10", "put 3 20", "put 4 31", "parts 100 = 2", "parts 121 = 1", "parts 99 = 4");
        S.run(1, "put 4 0", "put 1 20", "put 3 10", "put 2 30", "parts 100 = 1");
        S.of("Promise 12", words, "IDS that do not stand in the order of the places");
        S.run(1, "put 1 0", "put 2 100", "put 3 1", "put 4 101", "put 5 50", "parts 0 = 5", "parts 1 = 3", "parts 2400 = 3", "parts 2401 = 2", "parts 2499 = 2", "parts 2500 = 1");
        S.of("Promise 12", words, "two parts that a third one joins");
        S.run(1, "put 1 0", "put 2 1", "put 8 4", "put 9 5", "parts 4 = 2", "put 5 3", "parts 4 = 1");
        S.of("Promise 12", words, "LIVE ones alone: a DEAD one joins none");
        S.run(1, "put 1 0", "put 2 10", "put 3 20", "drop 2", "count 2 = 3", "parts 100 = 2", "parts 400 = 1");
        S.of("Promise 12", words, "sixty, all apart, and all in one line");
        S.run(1, sixty(3), "parts 8 = 60", "parts 9 = 1", "drop 70", "parts 9 = 2", "parts 36 = 1", "parts 0 = 59");
    }

    private static void partsRefuses() {
        for (String most : new String[] {"-1", "-2147483648", "-4294967296", "MIN"}) {
            S.of("Promise 12", "IllegalArgumentException: most is below 0", "most " + most + ", without POINTS and with some");
            S.run(1, "parts " + most + " = argument", "put 1", "put 2", "parts " + most + " = argument", "parts 0 = 1");
        }
    }

    private static void spanAnswers() {
        String words = "The least sum of DISTANCES of pairs that join all LIVE POINTS; 0 of fewer than two";
        S.of("Promise 13", words, "0 of none, of one, and behind the last one that went");
        S.run(1, "span = 0", "put 1 7", "span = 0", "put 2 9", "span = 4", "drop 1", "span = 0", "drop 2", "span = 0");
        S.of("Promise 13", words, "two");
        S.run(2, "put 1 0 0", "put 2 3 4", "span = 25");
        S.of("Promise 13", words, "0 of those at one place");
        S.run(2, "put 1 3 3", "put 2 3 3", "put 3 3 3", "span = 0");
        S.of("Promise 13", words, "the least sum: by the one between, not across");
        S.run(2, "put 1 0 0", "put 2 10 0", "span = 100", "put 3 5 1", "span = 52", "put 4 5 -100", "span = 10077");
        S.of("Promise 13", words, "the one that joins has the least, the middle and the greatest ID");
        S.run(1, "put 1 5", "put 2 0", "put 3 10", "span = 50");
        S.run(1, "put 2 5", "put 1 0", "put 3 10", "span = 50");
        S.run(1, "put 3 5", "put 1 0", "put 2 10", "span = 50");
        S.of("Promise 13", words, "IDS that do not stand in the order of the places");
        S.run(1, "put 1 0", "put 2 100", "put 3 1", "span = 9802", "put 4 101", "span = 9803", "put 5 50", "span = 4903");
        S.of("Promise 13", words, "LIVE ones alone: a DEAD one joins none");
        S.run(1, "put 1 0", "put 2 5", "put 3 10", "drop 2", "count 2 = 3", "span = 100");
        S.of("Promise 13", words, "two parts far from one another are joined once");
        S.run(1, "put 1 0", "put 2 1", "put 3 1000", "put 4 1001", "span = 998003");
        S.of("Promise 13", words, "more than an int holds");
        S.run(4, corners(), "span = 6000000000", "pair: 0 1 400000000", "parts 399999999 = 16", "parts 400000000 = 1");
        S.of("Promise 13", words, "sixty");
        S.run(1, sixty(3), "span = 531", "drop 70", "span = 549");
        S.run(1, sixty(100), "span = 590000");
    }
}
