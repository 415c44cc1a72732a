import java.nio.charset.StandardCharsets;

/** Feeds texts and bytes to a ToolSaints, twenty bytes a call. */
final class Tape {
    private Tape() {
    }

    static void put(ToolSaints x, byte[] bytes) {
        int before = x.feed(0, 0, 0, 0, 0) - 20;
        x.end(before);
        int[] numbers = new int[5];
        for (int from = 0; from < bytes.length; from += 20) {
            for (int i = 0; i < 5; i++) {
                numbers[i] = numberAt(bytes, from + 4 * i);
            }
            x.feed(numbers[0], numbers[1], numbers[2], numbers[3], numbers[4]);
        }
        x.end(before + bytes.length);
    }

    static int numberAt(byte[] bytes, int from) {
        int number = 0;
        for (int i = from; i < from + 4; i++) {
            number = number << 8 | (i < bytes.length ? bytes[i] & 255 : 0);
        }
        return number;
    }

    static int year(ToolSaints x, String text) {
        put(x, text.getBytes(StandardCharsets.ISO_8859_1));
        return x.year();
    }

    static int shavings(ToolSaints x, int... rows) {
        put(x, bytes(rows));
        return x.shavings();
    }

    static boolean on(ToolSaints x, int... image) {
        put(x, bytes(image));
        return x.on();
    }

    static int[] image(ToolSaints x) {
        int[] image = new int[x.image()];
        for (int i = 0; i < image.length; i++) {
            image[i] = x.octet(i);
        }
        return image;
    }

    /** The image with its last byte made right again. */
    static int[] summed(int[] image) {
        int c = 157;
        for (int i = 0; i + 1 < image.length; i++) {
            c = (5 * c + image[i]) % 251;
        }
        image[image.length - 1] = c;
        return image;
    }

    private static byte[] bytes(int[] numbers) {
        byte[] bytes = new byte[numbers.length];
        for (int i = 0; i < bytes.length; i++) {
            bytes[i] = (byte) numbers[i];
        }
        return bytes;
    }
}
