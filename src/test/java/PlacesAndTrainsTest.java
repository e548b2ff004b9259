/** Promises 15 to 22: PLACES, HEIGHTS, the POINTER, TRAINS. */
public final class PlacesAndTrainsTest {
    private static final int[] COS = {
        12, 12, 10, 8, 6, 3, 0, -3, -6, -8, -10, -12, -12, -12, -10, -8, -6, -3, 0, 3, 6, 8, 10, 12
    };

    public static void main(String[] args) {
        place();
        height();
        pointer();
        off();
        train();
        trainTies();
        trained();
        share();
        shared();
        Rig.end();
    }

    private static void place() {
        Rig.promise(15);
        TideDiscs x = Rig.with("wave a turns 2 in 25 at 20 train 7 5; wave b turns 9999 in 7 train 200 5 199 5; wave c turns 1 in 24 at 23;");
        // TRUE: 20 and 48 h by 25
        Rig.fine("hour 0", x, x.place(0, 0, 0, false), 20);
        Rig.fine("hour 1", x, x.place(0, 0, 1, false), 21);
        Rig.fine("hour 2", x, x.place(0, 0, 2, false), 23);
        Rig.fine("hour 3", x, x.place(0, 0, 3, false), 1);
        // TURNED: 20 and 7 h by 5
        Rig.fine("hour 1 turned", x, x.place(0, 0, 1, true), 21);
        Rig.fine("hour 2 turned", x, x.place(0, 0, 2, true), 22);
        Rig.fine("hour 3 turned", x, x.place(0, 0, 3, true), 0);
        // 24 x 9999 x 99999 / 7 = 3428194289.14 and 200 x 199 x 99999 / 25 = 159198408
        Rig.fine("far", x, x.place(0, 1, 99999, false), 24L * 9999 * 99999 / 7 % 24);
        Rig.fine("far turned", x, x.place(0, 1, 99999, true), 159198408 % 24);
        Rig.fine("without a train", x, x.place(0, 2, 2, true), 1);
        Rig.refused("hour -1", x, x.place(0, 0, -1, false), 5);
        Rig.refused("hour 100000", x, x.place(0, 0, 100000, false), 5);
        Rig.refused("no wave", x, x.place(0, 3, -1, false), 2);
        Rig.refused("no machine", x, x.place(-1, 0, 0, false), 2);
    }

    private static void height() {
        Rig.promise(16);
        TideDiscs x = Rig.with("wave a turns 1 in 24 size 3 train 5 10; wave b turns 1 in 12 size 2 at 6; zero 4;");
        for (int h = 0; h < 50; h++) {
            int b = 2 * COS[(2 * h + 6) % 24];
            Rig.fine("true " + h, x, x.height(0, h, false), 48 + 3 * COS[h % 24] + b);
            Rig.fine("turned " + h, x, x.height(0, h, true), 48 + 3 * COS[h / 2 % 24] + b);
        }
        Rig.machine(x, 1, "wave a turns 1 in 24 size 9; wave b turns 1 in 24 size 9; wave c turns 1 in 24 size 9;");
        Rig.machine(x, 1, "");
        Rig.machine(x, 1, "wave a turns 1 in 24 size 1;");
        Rig.fine("nothing is left of those ahead", x, x.height(1, 0, false), 12);
        Rig.refused("hour -1", x, x.height(0, -1, true), 5);
        Rig.refused("hour 100000", x, x.height(0, 100000, true), 5);
        Rig.fine("last hour", x, x.height(0, 99999, false), 48 + 3 * COS[15] + 2 * COS[(2 * 99999 + 6) % 24]);
        Rig.refused("no machine", x, x.height(2, -1, true), 2);
        x = Rig.with("wave a turns 1 in 24 size 1 at 7; wave b turns 1 in 24 size 1 at 18; wave c turns 1 in 24 size 1 at 3;");
        x.set(0, 2, 0, 0);
        Rig.fine("below 0", x, x.height(0, 0, true), -3);
    }

    private static void pointer() {
        Rig.promise(17);
        TideDiscs x = Rig.with("wave a turns 1 in 24 size 1; slack 3;");
        int[] wants = {12, 12, 12, 11, 9, 6, 3, 0, -3, -5, -7, -9, -9, -9, -9, -9, -9, -6, -3, 0, 3, 5, 7, 9, 9, 9, 9, 9, 9, 6};
        for (int h = 0; h < wants.length; h++) {
            Rig.fine("hour " + h, x, x.pointer(0, 0, h), wants[h]);
        }
        Rig.fine("from 6 on", x, x.pointer(0, 6, 7), 0);
        Rig.fine("from 6 on", x, x.pointer(0, 6, 8), -3);
        Rig.fine("2000 ahead", x, x.pointer(0, 97999, 99999), x.pointer(0, 97999 - 24, 99999 - 24));
        Rig.refused("2001 ahead", x, x.pointer(0, 97998, 99999), 5);
        Rig.refused("behind it", x, x.pointer(0, 5, 4), 5);
        Rig.refused("below 0", x, x.pointer(0, -1, 4), 5);
        Rig.refused("above 99999", x, x.pointer(0, 99999, 100000), 5);
        Rig.refused("no machine", x, x.pointer(2, 5, 4), 2);
        x = Rig.with("wave a turns 1 in 24 size 1 train 6 12;");
        Rig.fine("without slack, turned", x, x.pointer(0, 0, 6), 8);
        Rig.fine("at once, turned", x, x.pointer(0, 6, 6), 8);
    }

    private static void off() {
        Rig.promise(18);
        TideDiscs x = Rig.with("wave a turns 1 in 25 at 7 train 24 25; wave b turns 2 in 25 train 23 12; wave c turns 1 in 9;"
            + "wave d turns 9999 in 9998 train 5 200 7 199;");
        Rig.fine("it fits", x, x.off(0, 0, 99999));
        Rig.fraction("it fits", x, 0, 1);
        // 48/25 less 23/12 is 1/300 a HOUR
        Rig.fine("b", x, x.off(0, 1, 100));
        Rig.fraction("b", x, 1, 3);
        Rig.fine("b", x, x.off(0, 1, 99999));
        Rig.fraction("b", x, 33333, 100);
        // 24 x 9999 / 9998 less 35 / 39800 (7 / 7960): (239976 x 7960 - 7 x 9998) / (9998 x 7960)
        Rig.fine("d", x, x.off(0, 3, 1));
        Rig.fraction("d", x, 955069487, 39792040);
        Rig.refused("no train", x, x.off(0, 2, 1), 8);
        Rig.refused("hours", x, x.off(0, 2, 100000), 5);
        Rig.refused("hours", x, x.off(0, 2, -1), 5);
        Rig.refused("no wave", x, x.off(0, 4, -1), 2);
        Rig.refused("no machine", x, x.off(3, 0, 1), 2);
        Rig.fraction("as it was", x, 955069487, 39792040);
    }

    private static void train() {
        Rig.promise(19);
        // 48 by 25 PLACES a HOUR; of all couples 23/12 is nearest
        TideDiscs x = Rig.with("wave a turns 2 in 25; box 1 of 12; box 1 of 23; box 1 of 24; box 2 of 50; box 0 of 25;");
        Rig.fine("one couple", x, x.train(0, 0, 1), 35);
        Rig.fraction("one couple", x, 2, 25);
        Rig.fine("driver", x, x.trained(0), 23);
        Rig.fine("driven", x, x.trained(1), 12);
        // 24 x 50 / (12 x 50) is 2, but 24/12 x 23/50 is .92, 50/12 x 23/50 is 1.9166.. with 23 50 12 50: 135 teeth
        Rig.fine("two couples", x, x.train(0, 0, 2), 135);
        Rig.fraction("two couples", x, 2, 25);
        int[] wants = {23, 12, 50, 50};
        for (int k = 0; k < 4; k++) {
            Rig.fine("wheel " + k, x, x.trained(k), wants[k]);
        }
        Rig.refused("no couple", x, x.train(0, 0, 0), 5);
        Rig.refused("three couples", x, x.train(0, 0, 3), 5);
        Rig.refused("no wave", x, x.train(0, 1, 3), 2);
        Rig.refused("no machine", x, x.train(2, 0, 1), 2);
        Rig.machine(x, 0, "wave a turns 1 in 24; box 1 of 10; box 2 of 20;");
        Rig.refused("not so many wheels", x, x.train(0, 0, 2), 9);
        Rig.fraction("as it was", x, 2, 25);
        Rig.fine("trained as it was", x, x.trained(3), 50);
        Rig.fine("one couple", x, x.train(0, 0, 1), 40);
        Rig.fraction("it fits", x, 0, 1);
        Rig.machine(x, 0, "wave a turns 1 in 24; box 1 of 10;");
        Rig.refused("not so many wheels", x, x.train(0, 0, 1), 9);
        Rig.machine(x, 0, "wave a turns 1 in 24; box 1 of 10; box 1 of 30;");
        // 10/30 is OFF 2/3, 30/10 is OFF 2
        Rig.fine("two wheels are enough", x, x.train(0, 0, 1), 40);
        Rig.fraction("two thirds in 24 hours", x, 16, 1);
    }

    private static void trainTies() {
        // 2 by 1: 20/10 and 10/5 fit, the fewest teeth are better than the first KINDS
        TideDiscs x = Rig.with("wave a turns 2 in 24; box 1 of 20; box 1 of 10; box 1 of 5;");
        Rig.fine("fewest teeth", x, x.train(0, 0, 1), 15);
        Rig.fine("driver", x, x.trained(0), 10);
        // all four wheels are needed: 6 x 10 / (5 x 12) fits in several orders; the first by KINDS is 10 5 6 12
        x = Rig.with("wave a turns 1 in 24; box 1 of 10; box 1 of 5; box 1 of 12; box 1 of 6;");
        Rig.fine("first by kinds", x, x.train(0, 0, 2), 33);
        int[] wants = {10, 5, 6, 12};
        for (int k = 0; k < 4; k++) {
            Rig.fine("wheel " + k, x, x.trained(k), wants[k]);
        }
        // a wave so quick that the greatest ratio is the best one; 9 of a KIND are enough for all four
        x = Rig.with("wave a turns 9999 in 1; box 9 of 200; box 9 of 5;");
        Rig.fine("greatest", x, x.train(0, 0, 2), 410);
        Rig.fraction("greatest", x, 24L * (24 * 9999 - 1600), 1);
    }

    private static void trained() {
        Rig.promise(20);
        TideDiscs x = Rig.with("wave a turns 1 in 24; box 2 of 10; box 2 of 20;");
        Rig.refused("ahead of any", x, x.trained(0), 8);
        x.train(0, 0, 3);
        Rig.refused("ahead of any with status 0", x, x.trained(0), 8);
        x.train(0, 0, 2);
        Rig.fine("wheel 3", x, x.trained(3), 20);
        Rig.refused("wheel 4", x, x.trained(4), 8);
        Rig.refused("wheel -1", x, x.trained(-1), 8);
        x.train(0, 0, 1);
        Rig.fine("wheel 1", x, x.trained(1), 10);
        Rig.refused("wheel 2 of one couple", x, x.trained(2), 8);
        Rig.machine(x, 0, "");
        Rig.fine("another machine leaves it", x, x.trained(0), 10);
    }

    private static void share() {
        Rig.promise(21);
        String waves = "wave a turns 1 in 24; wave b turns 1 in 24; wave c turns 1 in 48; wave d turns 1 in 12;";
        TideDiscs x = Rig.with(waves + "box 1 of 40; box 2 of 10; box 2 of 20;");
        // a and b want 1 by 1, c 1 by 2, d 2 by 1
        Rig.fine("a alone", x, x.share(0, 1, 0, 99999), 20);
        Rig.fine("b alone", x, x.share(0, 2, 0, 99999), 20);
        Rig.fine("a and b", x, x.share(0, 3, 0, 99999), 60);
        Rig.fine("c", x, x.share(0, 4, 0, 1), 30);
        Rig.fine("d", x, x.share(0, 8, 0, 1), 30);
        Rig.fine("c and d", x, x.share(0, 12, 0, 1), 60);
        Rig.refused("a, b and c", x, x.share(0, 7, 0, 1), 9);
        // with 20 by 40 for c, a has 10 by 10
        Rig.fine("a and c", x, x.share(0, 5, 0, 1), 80);
        int[] wants = {10, 10, 20, 40};
        for (int k = 0; k < 4; k++) {
            Rig.fine("wheel " + k, x, x.shared(k), wants[k]);
        }
        // OFF by half a PLACE a HOUR is 12 PLACES in 24 HOURS
        Rig.machine(x, 0, "wave a turns 1 in 24; box 1 of 10; box 1 of 20;");
        Rig.fine("as far as asked", x, x.share(0, 1, 12, 24), 30);
        Rig.fine("driver", x, x.shared(0), 10);
        Rig.refused("too far", x, x.share(0, 1, 12, 25), 9);
        Rig.fine("no hours, any couple", x, x.share(0, 1, 0, 0), 30);
        Rig.fraction("share tells none", x, 0, 1);
        Rig.machine(x, 0, waves + "box 9 of 10;");
        Rig.refused("four waves", x, x.share(0, 15, 99, 0), 5);
        Rig.fine("three waves", x, x.share(0, 14, 99, 0), 60);
        Rig.refused("no wave in the set", x, x.share(0, 0, 99, 0), 5);
        Rig.refused("places", x, x.share(0, 1, 100, 0), 5);
        Rig.refused("places", x, x.share(0, 1, -1, 0), 5);
        Rig.refused("hours", x, x.share(0, 1, 0, 100000), 5);
        Rig.refused("hours", x, x.share(0, 1, 0, -1), 5);
        Rig.refused("a set with others", x, x.share(0, 16, 100, 0), 2);
        Rig.refused("a set with others", x, x.share(0, -1, 100, 0), 2);
        Rig.refused("a set with others", x, x.share(0, Integer.MIN_VALUE, 0, 0), 2);
        Rig.refused("no machine", x, x.share(2, 1, 0, 0), 2);
        Rig.machine(x, 0, "wave a turns 1 in 24;");
        Rig.refused("an empty box", x, x.share(0, 1, 99, 0), 9);
    }

    private static void shared() {
        Rig.promise(22);
        TideDiscs x = Rig.with("wave a turns 1 in 24; wave b turns 1 in 24; wave c turns 1 in 24; box 2 of 30; box 4 of 10;");
        Rig.refused("ahead of any", x, x.shared(0), 8);
        Rig.fine("share", x, x.share(0, 7, 0, 100), 100);
        // of three orders with as many teeth the first by KINDS, the one with 30 and 30 first
        int[] wants = {30, 30, 10, 10, 10, 10};
        for (int k = 0; k < 6; k++) {
            Rig.fine("wheel " + k, x, x.shared(k), wants[k]);
        }
        Rig.refused("wheel 6", x, x.shared(6), 8);
        Rig.refused("wheel -1", x, x.shared(-1), 8);
        Rig.machine(x, 0, "wave a turns 1 in 24; box 1 of 10;");
        Rig.refused("share", x, x.share(0, 1, 0, 100), 9);
        Rig.fine("as it was", x, x.shared(5), 10);
        Rig.machine(x, 0, "wave a turns 1 in 24; box 2 of 11;");
        Rig.fine("share", x, x.share(0, 1, 0, 100), 22);
        Rig.fine("wheel 1", x, x.shared(1), 11);
        Rig.refused("wheel 2 is gone", x, x.shared(2), 8);
    }
}
