/** The example of README.md; ReadmeTests compares both, and what this prints. */
public final class Example {
    public static void main(String[] args) {
        MirroredTalks x = new MirroredTalks();

        // Plan 0, a buyer: chooses a (an offer), then waits for b (yes) or c (no), then ends.
        write(x, "0!a1;1?b2c2;");
        System.out.println("states told: " + x.read(0));

        // Plan 1, a seller: the same with the sides changed. Plan 2 is a second such seller.
        x.copy(0, 1);
        System.out.println("states mirrored: " + x.mirror(1));
        x.copy(1, 2);
        System.out.println("talks: " + x.talks(0, 1) + ", stuck pairs: " + x.talk(0, 1, 1));

        // The seller of plan 1 learns to answer d, too, for which the buyer has no arrow.
        System.out.println("arrows: " + x.arrow(1, 1, 3, 2));
        System.out.println("stuck for the reason " + x.pairOf(0, 1, -1, 3)
                + ", word " + x.pairOf(0, 1, -1, 4)
                + ", behind " + x.pairOf(0, 1, -1, 2) + " word: " + x.pairOf(0, 1, -1, 10));
        System.out.println("1 for 2: " + x.standsIn(1, 2) + ", reason " + x.against(1, 2, 3)
                + ", word " + x.against(1, 2, 4));
        System.out.println("2 for 1: " + x.standsIn(2, 1)
                + ", reason found: " + (x.against(2, 1, 3) != MirroredTalks.NOT_FOUND));

        // Taking this back leaves three changes of the four that were kept.
        System.out.println("changes left: " + x.undo() + ", stuck pairs: " + x.talk(0, 1, 1));

        // The second state of this text has two arrows by a.
        write(x, "1.;0!a1b1a2;");
        System.out.println("fault at " + x.fault(0) + ", reason " + x.fault(1) + ", cause " + x.fault(2));
        System.out.println("read: " + (x.read(0) == MirroredTalks.NOT_POSSIBLE));
    }

    private static void write(MirroredTalks x, String text) {
        x.clearText();
        for (char character : text.toCharArray()) {
            x.type(character);
        }
    }
}
