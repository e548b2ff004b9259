/** The edges of promises 19 to 22: the BEST TRAIN out of a BOX, and those that are SHARED. */
public final class TrainEdgesTest {
    private static final int LEAST = Integer.MIN_VALUE;
    private static final int MOST = Integer.MAX_VALUE;
    private static final String ONE_A_HOUR = "wave a turns 1 in 24;";

    public static void main(String[] args) {
        asManyWheelsAsThereAre();
        noMoreOfAKind();
        fullBox();
        offLeast();
        fewestTeeth();
        firstByKinds();
        trainRefused();
        trainedWheels();
        sharedPlaces();
        sharedHours();
        sharedSets();
        sharedBox();
        sharedFewest();
        sharedFull();
        shareRefused();
        sharedWheels();
        Rig.end();
    }

    private static void trained(TideDiscs x, int... wants) {
        for (int k = 0; k < wants.length; k++) {
            Rig.fine("wheel " + k, x, x.trained(k), wants[k]);
        }
        Rig.refused("no more wheels", x, x.trained(wants.length), 8);
        Rig.refused("no wheel -1", x, x.trained(-1), 8);
    }

    private static void shared(TideDiscs x, int... wants) {
        for (int k = 0; k < wants.length; k++) {
            Rig.fine("wheel " + k, x, x.shared(k), wants[k]);
        }
        Rig.refused("no more wheels", x, x.shared(wants.length), 8);
        Rig.refused("no wheel -1", x, x.shared(-1), 8);
    }

    // ---- promise 19

    private static void asManyWheelsAsThereAre() {
        Rig.says("the FRACTION is how far it is OFF by 24 HOURS (2; 5; 9: not so many wheels).");
        String[] tooFew = {"", "box 0 of 10;", "box 1 of 10;", "box 0 of 10; box 1 of 20; box 0 of 30;"};
        for (String box : tooFew) {
            TideDiscs x = Rig.with(ONE_A_HOUR + box);
            Rig.refused("one couple of " + box, x, x.train(0, 0, 1), 9);
            Rig.refused("two couples of " + box, x, x.train(0, 0, 2), 9);
            Rig.fraction("none", x, 0, 1);
            Rig.refused("none trained", x, x.trained(0), 8);
        }
        TideDiscs x = Rig.with(ONE_A_HOUR + "box 2 of 10;");
        Rig.fine("just two", x, x.train(0, 0, 1), 20);
        trained(x, 10, 10);
        Rig.refused("just two", x, x.train(0, 0, 2), 9);
        trained(x, 10, 10);
        x = Rig.with(ONE_A_HOUR + "box 1 of 10; box 1 of 20; box 1 of 30;");
        Rig.refused("three", x, x.train(0, 0, 2), 9);
        // of 10 20, 10 30, 20 30 and back 20 30 is OFF by a third of a PLACE a HOUR
        Rig.fine("two of three", x, x.train(0, 0, 1), 50);
        Rig.fraction("a third", x, 8, 1);
        trained(x, 20, 30);
        x = Rig.with(ONE_A_HOUR + "box 1 of 10; box 3 of 20;");
        // 10 20 20 20, 20 10 20 20 ..: one half is nearest
        Rig.fine("just four", x, x.train(0, 0, 2), 70);
        Rig.fraction("a half", x, 12, 1);
        trained(x, 10, 20, 20, 20);
        Rig.says("BEST TRAIN of a WAVE out of the BOX, of so many couples (1, 2)");
        for (int couples : new int[] {0, 3, -1, LEAST, MOST}) {
            Rig.refused(couples + " couples", x, x.train(0, 0, couples), 5);
        }
        trained(x, 10, 20, 20, 20);
    }

    private static void noMoreOfAKind() {
        Rig.says("no more of a KIND than there are");
        // 10 by 10 would fit, but there is one of each
        TideDiscs x = Rig.with(ONE_A_HOUR + "box 1 of 10; box 1 of 11;");
        Rig.fine("one of each", x, x.train(0, 0, 1), 21);
        trained(x, 10, 11);
        x = Rig.with(ONE_A_HOUR + "box 0 of 10; box 2 of 11;");
        Rig.fine("none of the first", x, x.train(0, 0, 1), 22);
        trained(x, 11, 11);
        // 4 a HOUR: 20 by 5 once, and then 20 by 20 is not to be had, but 10 by 10
        x = Rig.with("wave a turns 4 in 24; box 1 of 20; box 1 of 5; box 2 of 10;");
        Rig.fine("two couples", x, x.train(0, 0, 2), 45);
        Rig.fraction("it fits", x, 0, 1);
        trained(x, 20, 5, 10, 10);
        x = Rig.with("wave a turns 4 in 24; box 3 of 20; box 1 of 5;");
        Rig.fine("three of a kind", x, x.train(0, 0, 2), 65);
        trained(x, 20, 20, 20, 5);
        // 16 a HOUR wants 20 by 5 twice
        x = Rig.with("wave a turns 16 in 24; box 2 of 20; box 2 of 5;");
        Rig.fine("two of each", x, x.train(0, 0, 2), 50);
        trained(x, 20, 5, 20, 5);
        Rig.fraction("it fits", x, 0, 1);
        x = Rig.with("wave a turns 1 in 24; box 4 of 9;");
        Rig.fine("four of one", x, x.train(0, 0, 2), 36);
        trained(x, 9, 9, 9, 9);
        // what one train() takes is in the BOX again
        Rig.fine("again", x, x.train(0, 0, 2), 36);
        Rig.fine("again", x, x.train(0, 0, 1), 18);
    }

    private static void fullBox() {
        Rig.says("at most 10 KINDS, numbered as they stand");
        TideDiscs x = Rig.with("wave a turns 1600 in 24; box 9 of 5; box 9 of 11; box 9 of 23; box 9 of 47; box 9 of 61; box 9 of 83;"
            + "box 9 of 101; box 9 of 131; box 9 of 163; box 9 of 200;");
        // 1,600 a HOUR is 200 x 200 by (5 x 5)
        Rig.fine("the last and the first kind", x, x.train(0, 0, 2), 410);
        Rig.fraction("it fits", x, 0, 1);
        trained(x, 200, 5, 200, 5);
        Rig.fine("one couple", x, x.train(0, 0, 1), 205);
        Rig.fraction("1,560 a HOUR", x, 24 * 1560, 1);
        // the slowest: 25 by 40,000 a HOUR
        Rig.machine(x, 0, "wave a turns 1 in 9999; box 9 of 200; box 9 of 163; box 9 of 131; box 9 of 101; box 9 of 83; box 9 of 61;"
            + "box 9 of 47; box 9 of 23; box 9 of 11; box 9 of 5;");
        Rig.fine("24 by 9,999 a HOUR", x, x.train(0, 0, 2) > 0 ? 1 : 0, 1);
        Rig.fine("one couple", x, x.train(0, 0, 1), 205);
        trained(x, 5, 200);
        // 1 by 40 less 24 by 9,999 (8 by 3,333), by 24 HOURS: 24 x (3,333 - 320) by 133,320
        Rig.fraction("one couple", x, 3013, 5555);
    }

    private static void offLeast() {
        Rig.says("that which is OFF least");
        // 11 by 10 is OFF a tenth, 10 by 11 an eleventh
        TideDiscs x = Rig.with(ONE_A_HOUR + "box 1 of 11; box 1 of 10;");
        Rig.fine("behind is nearer than ahead", x, x.train(0, 0, 1), 21);
        trained(x, 10, 11);
        Rig.fraction("an eleventh", x, 24, 11);
        // 199 by 200 is OFF 1 by 200, 200 by 199 1 by 199; 6 by 5 a fifth
        x = Rig.with(ONE_A_HOUR + "box 1 of 5; box 1 of 6; box 1 of 199; box 1 of 200;");
        Rig.fine("nearest, with many teeth", x, x.train(0, 0, 1), 399);
        trained(x, 199, 200);
        Rig.fraction("by 24 HOURS", x, 3, 25);
    }

    private static void fewestTeeth() {
        Rig.says("of several that with the fewest teeth together");
        TideDiscs x = Rig.with("wave a turns 2 in 24; box 1 of 200; box 1 of 100; box 1 of 12; box 1 of 6;");
        Rig.fine("12 by 6, not 200 by 100", x, x.train(0, 0, 1), 18);
        trained(x, 12, 6);
        x = Rig.with(ONE_A_HOUR + "box 9 of 30; box 9 of 20; box 9 of 10;");
        Rig.fine("10 by 10", x, x.train(0, 0, 1), 20);
        Rig.fine("four times 10", x, x.train(0, 0, 2), 40);
        trained(x, 10, 10, 10, 10);
        // of those OFF alike on either side, too: 3 by 2 a HOUR is wanted, 40 by 20 and 10 by 10 are OFF a half
        x = Rig.with("wave a turns 3 in 48; box 1 of 40; box 1 of 20; box 0 of 15; box 2 of 10;");
        Rig.fine("a half either way", x, x.train(0, 0, 1), 20);
        trained(x, 10, 10);
        Rig.fraction("a half", x, 12, 1);
    }

    private static void firstByKinds() {
        Rig.says("of these the first by the KINDS of its wheels in order");
        // 6 x 10 by (5 x 12) in any order; KINDS 10 5 12 6: the first is 10, then 5, then 6 (12 would not fit), 12
        TideDiscs x = Rig.with(ONE_A_HOUR + "box 1 of 10; box 1 of 5; box 1 of 12; box 1 of 6;");
        Rig.fine("all four", x, x.train(0, 0, 2), 33);
        trained(x, 10, 5, 6, 12);
        x = Rig.with(ONE_A_HOUR + "box 1 of 12; box 1 of 6; box 1 of 5; box 1 of 10;");
        Rig.fine("all four", x, x.train(0, 0, 2), 33);
        // 12 and 5 drive, 6 and 10 are driven: 12 6 5 10
        trained(x, 12, 6, 5, 10);
        x = Rig.with(ONE_A_HOUR + "box 1 of 6; box 1 of 12; box 1 of 10; box 1 of 5;");
        Rig.fine("all four", x, x.train(0, 0, 2), 33);
        trained(x, 6, 12, 10, 5);
        // KINDS as they stand, not by their teeth: two couples of 20 and 10
        x = Rig.with(ONE_A_HOUR + "box 2 of 20; box 2 of 10;");
        Rig.fine("two and two", x, x.train(0, 0, 2), 60);
        trained(x, 20, 20, 10, 10);
        x = Rig.with(ONE_A_HOUR + "box 2 of 10; box 2 of 20;");
        Rig.fine("two and two", x, x.train(0, 0, 2), 60);
        trained(x, 10, 10, 20, 20);
        // 5 by 4 a HOUR is wanted: 20 by 10 and 10 by 20 are both OFF three quarters, with as many teeth
        x = Rig.with("wave a turns 5 in 96; box 1 of 20; box 1 of 10;");
        Rig.fine("20 stands first", x, x.train(0, 0, 1), 30);
        trained(x, 20, 10);
        Rig.fraction("three quarters", x, 18, 1);
        x = Rig.with("wave a turns 5 in 96; box 1 of 10; box 1 of 20;");
        Rig.fine("10 stands first", x, x.train(0, 0, 1), 30);
        trained(x, 10, 20);
        Rig.fraction("three quarters", x, 18, 1);
    }

    private static void trainRefused() {
        Rig.says("BEST TRAIN: its teeth together");
        for (int couples : new int[] {-1, 0, 3, LEAST, MOST}) {
            Furnished.none(5, couples + " couples", x -> x.train(0, 0, couples));
            Furnished.none(2, "2 ahead of " + couples + " couples", x -> x.train(0, 3, couples));
            Furnished.none(2, "2 ahead of " + couples + " couples", x -> x.train(2, 0, couples));
            Furnished.none(5, "5 ahead of 9", x -> x.train(1, 0, couples));
        }
        for (int w : new int[] {-1, 3, LEAST, MOST}) {
            Furnished.none(2, "wave " + w, x -> x.train(0, w, 1));
            Furnished.none(2, "2 ahead of 9", x -> x.train(1, w, 2));
        }
        for (int m : new int[] {-1, 2, LEAST, MOST}) {
            Furnished.none(2, "machine " + m, x -> x.train(m, 0, 1));
        }
        // MACHINE 1 has three wheels
        Furnished.none(9, "not so many wheels", x -> x.train(1, 0, 2));
    }

    private static void trainedWheels() {
        Rig.says("The teeth of wheel k of train() latest with STATUS 0 (8: none such).");
        for (int k : new int[] {-1, 4, LEAST, MOST}) {
            Furnished.none(8, "wheel " + k, x -> x.trained(k));
        }
        for (int k : new int[] {-1, 2, 3, 4, LEAST, MOST}) {
            Furnished.none(8, "wheel " + k + " of one couple", x -> x.train(0, 0, 1), x -> x.trained(k));
        }
        TideDiscs x = Rig.with(ONE_A_HOUR + "box 4 of 10;");
        x.train(0, 0, 2);
        trained(x, 10, 10, 10, 10);
        x.train(0, 0, 1);
        trained(x, 10, 10);
        x.share(0, 1, 0, 0);
        trained(x, 10, 10);
        x.machine(0, 0);
        trained(x, 10, 10);
        x.train(0, 0, 1);
        trained(x, 10, 10);
    }

    // ---- promise 21

    private static void sharedPlaces() {
        Rig.says("each OFF by at most so many PLACES (0 to 99) by so many HOURS");
        // 10 by 20 is OFF half a PLACE a HOUR, 20 by 10 one
        TideDiscs x = Rig.with(ONE_A_HOUR + "box 1 of 20; box 1 of 10;");
        Rig.refused("half a place is more than none", x, x.share(0, 1, 0, 1), 9);
        Rig.fine("half a place is at most one", x, x.share(0, 1, 1, 1), 30);
        Rig.fine("just one", x, x.share(0, 1, 1, 2), 30);
        // 20 by 10 is OFF two by then
        shared(x, 10, 20);
        Rig.refused("one and a half", x, x.share(0, 1, 1, 3), 9);
        Rig.fine("just 99", x, x.share(0, 1, 99, 198), 30);
        shared(x, 10, 20);
        Rig.refused("99 and a half", x, x.share(0, 1, 99, 199), 9);
        Rig.fine("just 99, both ways", x, x.share(0, 1, 99, 99), 30);
        shared(x, 20, 10);
        for (int places : new int[] {-1, 100, LEAST, MOST}) {
            Rig.refused("places " + places, x, x.share(0, 1, places, 0), 5);
        }
        shared(x, 20, 10);
    }

    private static void sharedHours() {
        TideDiscs x = Rig.with("wave a turns 9999 in 1; box 1 of 5; box 1 of 200;");
        Rig.fine("by no hours nothing is off", x, x.share(0, 1, 0, 0), 205);
        shared(x, 5, 200);
        Rig.refused("by one hour all is", x, x.share(0, 1, 99, 1), 9);
        x = Rig.with(ONE_A_HOUR + "box 2 of 7; box 1 of 5;");
        Rig.fine("the most hours", x, x.share(0, 1, 0, 99999), 14);
        shared(x, 7, 7);
        for (int hours : new int[] {-1, 100000, LEAST, MOST}) {
            Rig.refused("hours " + hours, x, x.share(0, 1, 99, hours), 5);
        }
        shared(x, 7, 7);
    }

    private static void sharedSets() {
        Rig.says("SHARED: of up to three WAVES (a set: 1 for WAVE 0, 2 for 1 ..) each one couple, all out of one BOX");
        // WAVE i wants i + 1 by 1: 10 by 10, 20 by 10, 30 by 10 ..
        StringBuilder text = new StringBuilder();
        for (int i = 0; i < 6; i++) {
            text.append("wave ").append((char) ('a' + i)).append(" turns ").append(i + 1).append(" in 24;");
        }
        text.append("box 9 of 10;");
        for (int i = 1; i < 6; i++) {
            text.append("box 9 of ").append(10 + 10 * i).append(";");
        }
        TideDiscs x = Rig.with(text.toString());
        for (int set = 1; set < 64; set++) {
            int many = Integer.bitCount(set);
            if (many > 3) {
                Rig.refused("set " + set, x, x.share(0, set, 0, 1), 5);
                continue;
            }
            int teeth = 0;
            for (int i = 0; i < 6; i++) {
                teeth += (set >> i & 1) * (20 + 10 * i);
            }
            Rig.fine("set " + set, x, x.share(0, set, 0, 1), teeth);
        }
        Rig.fine("the first, the third, the sixth", x, x.share(0, 37, 0, 1), 20 + 40 + 70);
        shared(x, 10, 10, 30, 10, 60, 10);
        Rig.refused("none", x, x.share(0, 0, 0, 1), 5);
        Rig.says("a set with others");
        for (int set : new int[] {64, 65, 128, -1, -64, LEAST, MOST, 1 << 30}) {
            Rig.refused("set " + set, x, x.share(0, set, 0, 1), 2);
        }
        shared(x, 10, 10, 30, 10, 60, 10);
    }

    private static void sharedBox() {
        Rig.says("all out of one BOX");
        TideDiscs x = Rig.with(ONE_A_HOUR + "wave b turns 1 in 24; wave c turns 1 in 24; box 5 of 10;");
        Rig.fine("two", x, x.share(0, 3, 0, 1), 40);
        Rig.refused("three, with a wheel too few", x, x.share(0, 7, 0, 1), 9);
        shared(x, 10, 10, 10, 10);
        Rig.machine(x, 0, ONE_A_HOUR + "wave b turns 1 in 24; wave c turns 1 in 24; box 6 of 10;");
        Rig.fine("three, with just so many", x, x.share(0, 7, 0, 1), 60);
        Rig.fine("again", x, x.share(0, 7, 0, 1), 60);
        Rig.machine(x, 0, ONE_A_HOUR + "box 1 of 10;");
        Rig.refused("one wheel", x, x.share(0, 1, 99, 0), 9);
        Rig.machine(x, 0, ONE_A_HOUR + "box 0 of 10;");
        Rig.refused("none of a kind", x, x.share(0, 1, 99, 0), 9);
        Rig.machine(x, 0, ONE_A_HOUR);
        Rig.refused("an empty box", x, x.share(0, 1, 99, 0), 9);
        Rig.machine(x, 0, ONE_A_HOUR + "box 1 of 10; box 0 of 20; box 1 of 30;");
        Rig.fine("kinds without wheels are no matter", x, x.share(0, 1, 99, 1), 40);
        shared(x, 10, 30);
        // a has to leave 10 by 10 to b, which needs them: 20 by 20 for a
        Rig.machine(x, 0, "wave a turns 1 in 24; wave b turns 2 in 24; box 2 of 10; box 3 of 20;");
        Rig.fine("one for the other", x, x.share(0, 3, 0, 1), 70);
        shared(x, 20, 20, 20, 10);
    }

    private static void sharedFewest() {
        Rig.says("the fewest teeth together; of several the first by KINDS, WAVE by WAVE.");
        // each may have any couple: the least are 5 and 6, as KINDS stand
        TideDiscs x = Rig.with(ONE_A_HOUR + "wave b turns 1 in 24; box 1 of 30; box 1 of 6; box 1 of 20; box 1 of 5; box 1 of 7;");
        Rig.fine("one", x, x.share(0, 1, 99, 0), 11);
        shared(x, 6, 5);
        Rig.fine("two", x, x.share(0, 3, 99, 0), 38);
        shared(x, 6, 20, 5, 7);
        // a tooth less is fewer
        x = Rig.with(ONE_A_HOUR + "box 1 of 10; box 1 of 12; box 1 of 11;");
        Rig.fine("one less", x, x.share(0, 1, 99, 0), 21);
        shared(x, 10, 11);
        // what was shared by more WAVES ahead is no matter
        x = Rig.with(ONE_A_HOUR + "wave b turns 1 in 24; wave c turns 1 in 24; box 1 of 100; box 1 of 102; box 1 of 101; box 9 of 200;");
        int[][] sets = {{7, 903}, {1, 201}, {7, 903}, {3, 503}, {1, 201}, {3, 503}, {7, 903}};
        for (int[] s : sets) {
            Rig.fine("set " + s[0], x, x.share(0, s[0], 99, 0), s[1]);
        }
        // 20 by 10 for b would leave 40 by 40 to a; 40 by 20 for b and 10 by 10 for a are fewer together
        x = Rig.with("wave a turns 1 in 24; wave b turns 2 in 24; box 2 of 40; box 2 of 10; box 1 of 20;");
        Rig.fine("more teeth for one of them", x, x.share(0, 3, 0, 1), 80);
        shared(x, 10, 10, 40, 20);
        // of three WAVES that want the same, the KINDS go WAVE by WAVE
        x = Rig.with("wave a turns 1 in 24; wave b turns 1 in 24; wave c turns 1 in 24; box 2 of 12; box 2 of 11; box 2 of 10;");
        Rig.fine("three", x, x.share(0, 7, 0, 1), 66);
        shared(x, 12, 12, 11, 11, 10, 10);
        x = Rig.with("wave a turns 1 in 24; wave b turns 1 in 24; wave c turns 1 in 24; box 2 of 10; box 2 of 12; box 4 of 11;");
        Rig.fine("two of three", x, x.share(0, 5, 0, 1), 42);
        shared(x, 10, 10, 11, 11);
        Rig.fine("three", x, x.share(0, 7, 0, 1), 64);
        shared(x, 10, 10, 11, 11, 11, 11);
    }

    private static void sharedFull() {
        Rig.says("SHARED: the fewest teeth (2; 5: one to three WAVES, PLACES, HOURS; 9).");
        StringBuilder text = new StringBuilder("wave a turns 1 in 24; wave b turns 1 in 24; wave c turns 1 in 24;");
        for (int i = 0; i < 10; i++) {
            text.append("box 9 of ").append(200 - i).append(";");
        }
        TideDiscs x = Rig.with(text.toString());
        Rig.fine("a full box", x, x.share(0, 7, 99, 0), 6 * 191);
        shared(x, 191, 191, 191, 191, 191, 191);
        // ten wheels, one of each KIND: the six with the fewest teeth, as their KINDS stand
        x = Rig.with(text.toString().replace("box 9", "box 1"));
        Rig.fine("one of each", x, x.share(0, 7, 99, 0), 191 + 192 + 193 + 194 + 195 + 196);
        shared(x, 196, 195, 194, 193, 192, 191);
    }

    private static void shareRefused() {
        for (int set : new int[] {8, 9, -1, LEAST, MOST}) {
            Furnished.none(2, "set " + set, x -> x.share(0, set, 0, 0));
            Furnished.none(2, "set " + set + " ahead of 5", x -> x.share(0, set, 100, 0));
            Furnished.none(2, "set " + set + " ahead of 5", x -> x.share(0, set, 0, 100000));
        }
        Furnished.none(2, "set 4 of machine 1", x -> x.share(1, 4, 0, 0));
        for (int m : new int[] {-1, 2, LEAST, MOST}) {
            Furnished.none(2, "machine " + m, x -> x.share(m, 1, 0, 0));
            Furnished.none(2, "machine " + m + " ahead of 5", x -> x.share(m, 0, 0, 0));
        }
        Furnished.none(5, "no wave", x -> x.share(0, 0, 0, 0));
        for (int places : new int[] {-1, 100, LEAST, MOST}) {
            Furnished.none(5, "places " + places, x -> x.share(0, 1, places, 0));
            Furnished.none(5, "places " + places + " ahead of 9", x -> x.share(0, 7, places, 99999));
        }
        for (int hours : new int[] {-1, 100000, LEAST, MOST}) {
            Furnished.none(5, "hours " + hours, x -> x.share(0, 1, 0, hours));
        }
        Furnished.none(9, "none fits", x -> x.share(0, 2, 0, 99999));
        Furnished.none(9, "a wheel too few", x -> x.share(0, 7, 99, 0));
        Furnished.none(9, "a wheel too few", x -> x.share(1, 3, 99, 0));
    }

    private static void sharedWheels() {
        Rig.says("The teeth of wheel k of all TRAINS, WAVE by WAVE, by share() latest with STATUS 0 (8: none such).");
        for (int k : new int[] {-1, 2, 6, LEAST, MOST}) {
            Furnished.none(8, "wheel " + k, x -> x.shared(k));
        }
        TideDiscs x = Rig.with(ONE_A_HOUR + "wave b turns 1 in 24; wave c turns 1 in 24; box 9 of 10;");
        x.share(0, 7, 0, 0);
        shared(x, 10, 10, 10, 10, 10, 10);
        x.share(0, 6, 0, 0);
        shared(x, 10, 10, 10, 10);
        x.share(0, 2, 0, 0);
        shared(x, 10, 10);
        x.train(0, 0, 2);
        shared(x, 10, 10);
        Rig.machine(x, 0, ONE_A_HOUR + "box 4 of 20;");
        shared(x, 10, 10);
        x.share(0, 1, 100, 0);
        shared(x, 10, 10);
    }
}
