import java.util.Arrays;
import java.util.HashSet;
import java.util.Set;

/** The boundary cases of promises 6 to 15 (deliver to settle), one test for each sentence. */
public final class FailureEdgesTest {
    private static final Check CHECK = new Check("FailureEdgesTest");
    private static final int REFUSED = StripedStore.REFUSED;
    private static final int LEAST = Integer.MIN_VALUE, MOST = Integer.MAX_VALUE;
    private static final int[] ODD = {LEAST, LEAST + 1, -129, -128, -1, 0, 1, 127, 128, 129, MOST - 1, MOST};

    public static void main(String[] args) {
        anyKTellsAMessage();
        everyMessageCanBeTold();
        nothingIsUnderWay();
        deliveredToANodeThatIsDown();
        stirsAre1To500();
        stirDoesAllThreeThings();
        stirOfOneDoesOneThing();
        anySeedWillDo();
        ticksAre1To50();
        ticksAreOneBehindTheOther();
        onlyNodesThatAreThereCrash();
        onlyNodesThatAreUpCrash();
        maskSaysWhatStands();
        partSaysHowManyBytesStand();
        onlyNodesThatAreDownRestart();
        aRestartedNodeKnowsTheMap();
        mapsOfAnySet();
        mapsOfFewerThanR();
        groupsWorkWithRNodesInAndUp();
        onlyNodesThatAreDownAreReplaced();
        replacedRMinus1Times();
        replacedWithTheSameNode();
        replaceEmptiesTheDisk();
        replaceKeepsTheNodesIn();
        settleCountsNoneToTwelve();
        settleOfANewStore();
        settleMakesAMapAlsoIfAllWereIn();
        settleWithAllNodesDown();
        settleWithNoNodeIn();
        settleWithAFullNet();
        settleAfterTheMostReplacements();
        CHECK.end();
    }

    /** One operation is begun, one message is under way. */
    private static StripedStore withOneMessage() {
        StripedStore x = new StripedStore(3, 2, 1);
        x.settle();
        Hand.op(x, Hand.SIZE, "none");
        CHECK.due("under way", Inside.underWay(x), 1);
        return x;
    }

    /** What is asked, and a new map for each node: no two of them are the same. */
    private static StripedStore withMany() {
        StripedStore x = new StripedStore(5, 3, 4);
        x.settle();
        Hand.write(x, "a", 400, Hand.times("x", 100));
        x.map(31);
        return x;
    }

    private static void anyKTellsAMessage() {
        for (int k : ODD) {
            StripedStore x = withOneMessage();
            x.lose(k);
            CHECK.due("lost by " + k, Inside.underWay(x), 0);
            StripedStore y = withOneMessage();
            y.deliver(k);
            y.deliver(k);
            CHECK.due("delivered by " + k, Inside.heard(y), 1);
            StripedStore z = withOneMessage();
            z.twice(k);
            CHECK.due("came by " + k + ", and is under way again", Inside.underWay(z), 2);
        }
    }

    private static void everyMessageCanBeTold() {
        int many = Inside.underWay(withMany());
        CHECK.due("many", many > 5, true);
        Set<String> lost = new HashSet<>();
        Set<String> delivered = new HashSet<>();
        for (int k = 0; k < many; k++) {
            StripedStore x = withMany();
            x.lose(k);
            lost.add(Inside.state(x));
            CHECK.due("one less", Inside.underWay(x), many - 1);
            StripedStore y = withMany();
            y.deliver(k);
            delivered.add(Inside.state(y));
        }
        CHECK.due("another one is lost each time", lost.size(), many);
        CHECK.due("another one is delivered each time", delivered.size(), many);
    }

    private static void nothingIsUnderWay() {
        for (int k : ODD) {
            StripedStore x = new StripedStore(4, 2, 3);
            x.settle();
            CHECK.due("under way", Inside.underWay(x), 0);
            x.deliver(k);
            x.lose(k);
            x.twice(k);
            CHECK.due("stir", x.stir(500, k), 500);
            CHECK.due("under way", Inside.underWay(x), 0);
            CHECK.due("settle", x.settle(), 0);
        }
    }

    private static void deliveredToANodeThatIsDown() {
        for (int how = 0; how < 2; how++) {
            StripedStore x = withOneMessage();
            for (int n = 0; n < 3; n++) {
                x.crash(n, 0, 0);
            }
            if (how == 0) {
                x.deliver(0);
            } else {
                x.twice(0);
            }
            CHECK.due("lost", Inside.underWay(x), how);
            CHECK.due("not heard", Inside.heard(x), 0);
            CHECK.due("settle", x.settle(), 1);
            CHECK.due("answer", x.answer(0), StripedStore.NONE);
        }
    }

    private static void stirsAre1To500() {
        int[] asked = {LEAST, -500, -1, 0, 1, 2, 499, 500, 501, 1000, MOST};
        for (int n : asked) {
            StripedStore x = withMany();
            String before = Inside.state(x);
            boolean right = n >= 1 && n <= 500;
            CHECK.due("stir " + n, x.stir(n, 12), right ? n : REFUSED);
            CHECK.due("something is done by " + n, !Inside.state(x).equals(before), right);
        }
    }

    private static void stirDoesAllThreeThings() {
        StripedStore delivered = withOneMessage();
        delivered.deliver(0);
        StripedStore lost = withOneMessage();
        lost.lose(0);
        StripedStore twice = withOneMessage();
        twice.twice(0);
        int[] seen = new int[3];
        for (int seed = -500; seed < 500; seed++) {
            StripedStore x = withOneMessage();
            x.stir(1, seed * 65537);
            String state = Inside.state(x);
            seen[0] += state.equals(Inside.state(delivered)) ? 1 : 0;
            seen[1] += state.equals(Inside.state(lost)) ? 1 : 0;
            seen[2] += state.equals(Inside.state(twice)) ? 1 : 0;
        }
        CHECK.due("comes, is lost, or comes twice", seen[0] + seen[1] + seen[2], 1000);
        for (int i = 0; i < 3; i++) {
            CHECK.due("thing " + i, seen[i] > 10, true);
        }
    }

    private static void stirOfOneDoesOneThing() {
        for (int seed = 0; seed < 50; seed++) {
            StripedStore x = withMany();
            int many = Inside.underWay(x);
            x.stir(1, seed);
            String state = Inside.state(x);
            boolean found = false;
            for (int k = 0; k < many && !found; k++) {
                for (int what = 0; what < 3 && !found; what++) {
                    StripedStore y = withMany();
                    doThing(y, what, k);
                    found = Inside.state(y).equals(state);
                }
            }
            CHECK.due("one of the things by seed " + seed, found, true);
        }
    }

    private static void doThing(StripedStore x, int what, int k) {
        if (what == 0) {
            x.deliver(k);
        } else if (what == 1) {
            x.lose(k);
        } else {
            x.twice(k);
        }
    }

    private static void anySeedWillDo() {
        for (int seed : ODD) {
            StripedStore x = withMany();
            CHECK.due("stir", x.stir(500, seed), 500);
            CHECK.due("settle", x.settle(), 1);
            CHECK.due("answer", x.answer(0), 100);
            CHECK.due("audit", x.audit(), 0);
        }
    }

    private static void ticksAre1To50() {
        int[] asked = {LEAST, -50, -1, 0, 1, 2, 49, 50, 51, 100, MOST};
        for (int n : asked) {
            StripedStore x = withMany();
            String before = Inside.state(x);
            boolean right = n >= 1 && n <= 50;
            CHECK.due("tick " + n, x.tick(n), right ? n : REFUSED);
            CHECK.due("something is done by " + n, !Inside.state(x).equals(before), right);
        }
    }

    private static void ticksAreOneBehindTheOther() {
        StripedStore x = new StripedStore(5, 3, 4);
        StripedStore y = new StripedStore(5, 3, 4);
        for (StripedStore s : new StripedStore[] {x, y}) {
            s.settle();
            Hand.write(s, "a", 400, Hand.times("x", 100));
            s.deliver(0);
        }
        String before = Inside.state(x);
        x.tick(3);
        CHECK.due("three ticks are not two", Inside.state(x).equals(ticked(y, 2)), false);
        CHECK.due("three ticks are three", Inside.state(x).equals(ticked(y, 1)), true);
        CHECK.due("and not none", Inside.state(x).equals(before), false);
    }

    private static String ticked(StripedStore x, int times) {
        for (int i = 0; i < times; i++) {
            x.tick(1);
        }
        return Inside.state(x);
    }

    private static void onlyNodesThatAreThereCrash() {
        for (int nodes = 3; nodes <= 6; nodes++) {
            StripedStore x = new StripedStore(nodes, 2, 2);
            x.settle();
            for (int n : new int[] {LEAST, -1, nodes, nodes + 1, 31, 32, MOST}) {
                CHECK.due("crash " + n, x.crash(n, -1, 512), false);
                CHECK.due("restart " + n, x.restart(n), false);
                CHECK.due("replace " + n, x.replace(n), false);
            }
            CHECK.due("up", x.count(6), nodes);
            CHECK.due("calm", x.count(10), 1);
            CHECK.due("epoch", x.count(5), 2);
            CHECK.due("crash the first", x.crash(0, 0, 0), true);
            CHECK.due("crash the last", x.crash(nodes - 1, 0, 0), true);
            CHECK.due("up", x.count(6), nodes - 2);
        }
    }

    private static void onlyNodesThatAreUpCrash() {
        StripedStore x = new StripedStore(3, 2, 2);
        for (int n = 0; n < 3; n++) {
            CHECK.due("crash", x.crash(n, 0, 0), true);
            CHECK.due("crash again", x.crash(n, -1, 512), false);
            CHECK.due("up", x.count(6), 2 - n);
        }
        CHECK.due("restart", x.restart(1), true);
        CHECK.due("crash", x.crash(1, 0, 0), true);
    }

    /** Until node n has written blocks that are not flushed. */
    private static StripedStore withNotFlushed(int n) {
        StripedStore x = new StripedStore(3, 3, 1);
        x.settle();
        Hand.write(x, "a", 10, Hand.times("0123456789", 150));
        for (int i = 0; i < 200 && Inside.notFlushed(x, n) < 4; i++) {
            x.deliver(0);
            if (Inside.underWay(x) == 0) {
                x.tick(1);
            }
        }
        CHECK.due("blocks that are not flushed", Inside.notFlushed(x, n) >= 4, true);
        return x;
    }

    /** What the disk would be if the blocks of mask stood. */
    private static int[] standing(StripedStore x, int n, int mask) {
        Object disk = Inside.get(Inside.node(x, n), "disk");
        int[] words = Inside.disk(x, n).clone();
        int[] fresh = (int[]) Inside.get(disk, "fresh");
        int[] slots = (int[]) Inside.get(disk, "slotOf");
        for (int i = 0; i < Inside.notFlushed(x, n); i++) {
            if ((mask >> i & 1) != 0) {
                System.arraycopy(fresh, i * 128, words, slots[i] * 128, 128);
            }
        }
        return words;
    }

    private static void maskSaysWhatStands() {
        Set<String> disks = new HashSet<>();
        int count = Inside.notFlushed(withNotFlushed(1), 1);
        for (int mask = 0; mask < 1 << count; mask++) {
            StripedStore x = withNotFlushed(1);
            int[] due = standing(x, 1, mask);
            CHECK.due("crash", x.crash(1, mask, 0), true);
            CHECK.due("disk with mask " + mask, Arrays.equals(Inside.disk(x, 1), due), true);
            disks.add(Arrays.toString(due));
            CHECK.due("nothing is left to be flushed", Inside.notFlushed(x, 1), 0);
            CHECK.due("settle", x.settle(), 1);
            CHECK.due("audit", x.audit(), 0);
        }
        CHECK.due("any may stand", disks.size(), 1 << count);
        for (int mask : new int[] {LEAST, MOST, -1}) {
            StripedStore x = withNotFlushed(1);
            int[] due = standing(x, 1, mask);
            x.crash(1, mask, 0);
            CHECK.due("disk with mask " + mask, Arrays.equals(Inside.disk(x, 1), due), true);
        }
    }

    private static void partSaysHowManyBytesStand() {
        for (int part : new int[] {LEAST, -512, -1, 0, 1, 2, 3, 4, 5, 255, 256, 510, 511, 512, 513, 1024, MOST}) {
            StripedStore x = withNotFlushed(2);
            int[] due = Inside.disk(x, 2).clone();
            int[] whole = standing(x, 2, 1);
            int slot = ((int[]) Inside.get(Inside.get(Inside.node(x, 2), "disk"), "slotOf"))[0];
            for (int i = 0; i < part && i < 512; i++) {
                int shift = 24 - i % 4 * 8;
                int at = slot * 128 + i / 4;
                due[at] = due[at] & ~(255 << shift) | whole[at] & 255 << shift;
            }
            CHECK.due("crash", x.crash(2, 0, part), true);
            CHECK.due("disk with part " + part, Arrays.equals(Inside.disk(x, 2), due), true);
            CHECK.due("settle", x.settle(), 1);
            CHECK.due("audit", x.audit(), 0);
        }
    }

    private static void onlyNodesThatAreDownRestart() {
        StripedStore x = new StripedStore(4, 2, 2);
        x.settle();
        for (int n = 0; n < 4; n++) {
            CHECK.due("restart of one that is up", x.restart(n), false);
        }
        CHECK.due("calm", x.count(10), 1);
        x.crash(3, 0, 0);
        CHECK.due("restart", x.restart(3), true);
        CHECK.due("restart again", x.restart(3), false);
        CHECK.due("up", x.count(6), 4);
    }

    private static void aRestartedNodeKnowsTheMap() {
        StripedStore x = new StripedStore(4, 2, 2);
        x.settle();
        x.crash(1, 0, 0);
        x.map(6);
        x.map(7);
        x.restart(1);
        CHECK.due("epoch of node 1", Inside.epochOf(x, 1), 4);
        CHECK.due("epoch of node 0", Inside.epochOf(x, 0), 2);
    }

    private static void mapsOfAnySet() {
        for (int nodes = 3; nodes <= 6; nodes++) {
            StripedStore x = new StripedStore(nodes, 2, 2);
            int all = (1 << nodes) - 1;
            int[] sets = {0, 1, all, all + 1, all + 2, -1, LEAST, MOST, ~all, 1 << nodes - 1, 1 << nodes};
            for (int i = 0; i < sets.length; i++) {
                CHECK.due("map " + sets[i], x.map(sets[i]), i + 2);
                CHECK.due("epoch", x.count(5), i + 2);
                CHECK.due("in", x.count(7), sets[i] & all);
            }
            CHECK.due("up", x.count(6), nodes);
            CHECK.due("settle", x.settle(), 0);
            CHECK.due("in", x.count(7), all);
        }
    }

    private static void mapsOfFewerThanR() {
        for (int copies = 2; copies <= 3; copies++) {
            StripedStore x = new StripedStore(4, copies, 3);
            x.settle();
            int kept = Hand.write(x, "a", 0, "kept");
            x.settle();
            CHECK.due("map", x.map(copies == 2 ? 8 : 9), 4);
            Hand.busy(x, 40);
            int read = Hand.op(x, Hand.READ, "a", 0, 9);
            Hand.busy(x, 40);
            CHECK.due("not heard", Inside.heard(x), 1);
            CHECK.due("settle", x.settle(), 1);
            CHECK.due("written", x.answer(kept), 4);
            CHECK.due("read", Hand.told(x, read).equals("kept"), true);
        }
    }

    private static void groupsWorkWithRNodesInAndUp() {
        for (int copies = 2; copies <= 3; copies++) {
            StripedStore x = new StripedStore(6, copies, 1);
            x.settle();
            x.map((1 << copies - 1) - 1);
            Hand.write(x, "a", 0, "x");
            Hand.busy(x, 40);
            CHECK.due("R - 1 are in", Inside.heard(x), 0);
            x.crash(copies - 1, 0, 0);
            x.map((1 << copies) - 1);
            Hand.busy(x, 40);
            CHECK.due("R are in, R - 1 of them up", Inside.heard(x), 0);
            x.restart(copies - 1);
            for (int n = copies; n < 6; n++) {
                x.crash(n, 0, 0);
            }
            Hand.busy(x, 60);
            CHECK.due("R are in and up", Inside.heard(x), 1);
            CHECK.due("settle", x.settle(), 1);
            CHECK.due("answer", x.answer(0), 1);
        }
    }

    private static void onlyNodesThatAreDownAreReplaced() {
        StripedStore x = new StripedStore(4, 3, 2);
        x.settle();
        for (int n = -1; n <= 4; n++) {
            CHECK.due("replace of one that is not down", x.replace(n), false);
        }
        CHECK.due("epoch", x.count(5), 2);
        CHECK.due("replaced", x.count(8), 0);
        CHECK.due("calm", x.count(10), 1);
        x.crash(0, 0, 0);
        x.crash(3, 0, 0);
        CHECK.due("replace the first", x.replace(0), true);
        CHECK.due("replace the last", x.replace(3), true);
        CHECK.due("both are still down", x.count(6), 2);
        x.restart(3);
        CHECK.due("replace of one that is up again", x.replace(3), false);
    }

    private static void replacedRMinus1Times() {
        for (int copies = 2; copies <= 3; copies++) {
            StripedStore x = new StripedStore(6, copies, 5);
            for (int round = 0; round < 3; round++) {
                for (int n = 0; n < 6; n++) {
                    x.crash(n, 0, 0);
                    CHECK.due("replace " + n, x.replace(n), n < copies - 1);
                    CHECK.due("replaced", x.count(8), Math.min(n + 1, copies - 1));
                }
                CHECK.due("settle", x.settle(), 0);
                CHECK.due("replaced since settle", x.count(8), 0);
            }
        }
    }

    private static void replacedWithTheSameNode() {
        for (int copies = 2; copies <= 3; copies++) {
            StripedStore x = new StripedStore(4, copies, 5);
            x.settle();
            x.crash(2, 0, 0);
            for (int i = 1; i <= copies + 1; i++) {
                CHECK.due("replace", x.replace(2), i < copies);
                CHECK.due("epoch", x.count(5), 2 + Math.min(i, copies - 1));
                x.restart(2);
                x.crash(2, 0, 0);
            }
        }
    }

    private static void replaceEmptiesTheDisk() {
        StripedStore x = new StripedStore(3, 3, 1);
        Hand.write(x, "a", 0, Hand.times("y", 1000));
        x.settle();
        x.crash(1, 0, 0);
        CHECK.due("blocks", Inside.blocks(x, 1), 5);
        x.replace(1);
        int others = 0;
        for (int word : Inside.disk(x, 1)) {
            others += word == 0 ? 0 : 1;
        }
        CHECK.due("words that are not 0", others, 0);
        CHECK.due("settle", x.settle(), 0);
        CHECK.due("holds", x.holds(1), 3);
        CHECK.due("audit", x.audit(), 0);
    }

    private static void replaceKeepsTheNodesIn() {
        for (int set = 0; set < 16; set++) {
            StripedStore x = new StripedStore(4, 2, 2);
            x.map(set);
            x.crash(1, 0, 0);
            CHECK.due("replace", x.replace(1), true);
            CHECK.due("in", x.count(7), set);
            CHECK.due("epoch", x.count(5), 3);
        }
    }

    private static void settleCountsNoneToTwelve() {
        for (int n = 0; n <= 12; n++) {
            StripedStore x = new StripedStore(3, 2, 2);
            for (int i = 0; i < n; i++) {
                Hand.op(x, Hand.MAKE, "f" + i);
            }
            CHECK.due("settle", x.settle(), n);
            CHECK.due("without an answer", x.count(4), 0);
            CHECK.due("files", x.count(0), n);
            CHECK.due("settle again", x.settle(), 0);
            CHECK.due("files", x.count(0), n);
        }
    }

    /** Also what those who began have heard of had no answer before: settle alone tells. */
    private static void settleOfANewStore() {
        StripedStore x = new StripedStore(3, 2, 1);
        CHECK.due("settle", x.settle(), 0);
        CHECK.due("calm", x.count(10), 1);
        Hand.op(x, Hand.MAKE, "a");
        Hand.busy(x, 40);
        CHECK.due("heard", Inside.heard(x), 1);
        CHECK.due("without an answer", x.count(4), 1);
        CHECK.due("settle", x.settle(), 1);
    }

    private static void settleMakesAMapAlsoIfAllWereIn() {
        StripedStore x = new StripedStore(5, 2, 3);
        for (int i = 2; i < 8; i++) {
            x.settle();
            CHECK.due("epoch", x.count(5), i);
        }
        x.map(3);
        x.settle();
        CHECK.due("epoch", x.count(5), 9);
        CHECK.due("in", x.count(7), 31);
        for (int n = 0; n < 5; n++) {
            CHECK.due("heard of by node " + n, Inside.epochOf(x, n), 9);
        }
    }

    private static void settleWithAllNodesDown() {
        for (int nodes = 3; nodes <= 6; nodes++) {
            StripedStore x = new StripedStore(nodes, 3, 16);
            Hand.write(x, "a", 0, Hand.times("z", 2000));
            x.settle();
            int append = Hand.append(x, "a", "!");
            for (int n = 0; n < nodes; n++) {
                x.crash(n, 0, 0);
            }
            CHECK.due("up", x.count(6), 0);
            CHECK.due("settle", x.settle(), 1);
            CHECK.due("up", x.count(6), nodes);
            CHECK.due("answer", x.answer(append), 1);
            CHECK.due("bytes", x.count(1), 2001);
            CHECK.due("audit", x.audit(), 0);
        }
    }

    private static void settleWithNoNodeIn() {
        StripedStore x = new StripedStore(4, 3, 16);
        x.map(0);
        int write = Hand.write(x, "a", 0, Hand.times("z", 2000));
        Hand.busy(x, 20);
        CHECK.due("not heard", Inside.heard(x), 0);
        CHECK.due("settle", x.settle(), 1);
        CHECK.due("in", x.count(7), 15);
        CHECK.due("answer", x.answer(write), 2000);
        CHECK.due("audit", x.audit(), 0);
    }

    /** More messages than there is room for are lost, as any may be. */
    private static void settleWithAFullNet() {
        StripedStore x = new StripedStore(6, 3, 16);
        for (int i = 0; i < 12; i++) {
            Hand.write(x, "f" + i, 440, Hand.times("z", 40));
            x.tick(50);
            x.map(63);
        }
        int many = Inside.underWay(x);
        x.tick(50);
        CHECK.due("no more find room", Inside.underWay(x), many);
        for (int k = 0; k < 100; k++) {
            x.twice(k);
        }
        CHECK.due("settle", x.settle(), 12);
        CHECK.due("bytes", x.count(1), 12 * 480);
        CHECK.due("laid", x.count(2), 24);
        CHECK.due("audit", x.audit(), 0);
    }

    private static void settleAfterTheMostReplacements() {
        for (int first = 0; first < 4; first++) {
            for (int second = 0; second < 4; second++) {
                StripedStore x = new StripedStore(4, 3, 16);
                Hand.write(x, "a", 0, Hand.times("0123456789abcdef", 128));
                x.settle();
                x.crash(first, 0, 0);
                x.crash(second, 0, 0);
                CHECK.due("replace", x.replace(first), true);
                CHECK.due("replace", x.replace(second), true);
                CHECK.due("settle", x.settle(), 0);
                CHECK.due("audit", x.audit(), 0);
                CHECK.due("byte", x.onDisk(0, 4, 2, 255), 'f');
            }
        }
    }
}
