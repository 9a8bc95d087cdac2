import java.util.Base64;

/** Frames that the published tools have written, with sums: opened, and cut at every byte. */
public final class PublishedTest {
    private PublishedTest() {
    }

    public static void main(String[] args) {
        for (int i = 0; i < SIZES.length; i++) {
            byte[] frame = Base64.getDecoder().decode(FRAMES[i]);
            TabledFrames x = Check.fine("frame " + i, frame, SIZES[i]);
            Check.due("frame " + i + ": bytes", x.told(5), SIZES[i]);
            everyCut("frame " + i, x, frame);
        }
        flushed();
        withDictionary();
        Check.end();
    }

    /** A cut frame lacks bytes, and what came out before stays. */
    private static void everyCut(String what, TabledFrames x, byte[] frame) {
        int first = x.out(0);
        Check.load(x, frame);
        for (int n = frame.length - 1; n > 0; n--) {
            x.cut(n);
            Check.due(what + " cut to " + n, x.open(Long.MAX_VALUE), -11);
            Check.due(what + " cut to " + n + ": place", x.place(), n);
            Check.due(what + " cut to " + n + ": out", x.out(0), first);
        }
    }

    /** Five blocks whose codes and tables are those of blocks before. */
    private static void flushed() {
        byte[] frame = Base64.getDecoder().decode(FLUSHED);
        TabledFrames x = Check.fine("flushed", frame, 4000);
        Check.told("flushed", x, 0, 1, 5, 5);
        Check.told("flushed", x, 5, 4000);
        everyCut("flushed", x, frame);
    }

    private static void withDictionary() {
        byte[] dictionary = Base64.getDecoder().decode(DICTIONARY);
        byte[] frame = Base64.getDecoder().decode(WITH_DICTIONARY);
        Check.fault("no dictionary", frame, 5, 5);
        TabledFrames x = Check.with(dictionary);
        Check.due("keep", x.keep(), 0x2DC77795);
        Check.load(x, frame);
        Check.due("open", x.open(100000), 900);
        everyCut("with a dictionary", x, frame);
        for (int n = 4; n < 129; n++) {
            Check.load(x, Make.first(dictionary, n));
            Check.due("keep " + n, x.keep(), -31);
        }
        Check.load(x, frame);
        Check.due("it is kept still", x.open(100000), 900);
    }

    private static final int[] SIZES = {306, 713, 1604, 619, 448, 271, 505, 235, 280, 935, 366, 201, 416, 964, 780, 1031, 1649, 1210, 667, 491, 228, 322, 701, 356};
    private static final String[] FRAMES = {
        "KLUv/UQPMgCEAADpRwMYBNRqVYB/Xd57ARkDHAIAKgOoAI4REREREREREAcABwAHAM3dIEOLlRvEoov5JywQOGdN0t5DGcj/nbib" +
            "HAOg1Crgn1WB+wcTMIH/ALCsKjAQEgAAAAgAAGHwAgDJTsnT09NEREdHR0fJYsnTWETJWERHR0dHR0dHR07JRMnJREREycndWMli" +
            "RMlOyVhETkTJTkRERMlERMlETsnJ091iRE5E00cECQRERMlERFhHR0dHR0dYyWJEyU5EAAAAnAAAhQK3AogUMGD/AxTwPy4zCBAA" +
            "BLEBAHaPyBYECQQDHJmQ2YGiq0jc0JcJgqjHj/t4W3lWNv10dOVgWx7U3QIADQ1HR0cLCU5ERETJRBEcmqY=",
        "KLUv/QRI5QIAlQQ+HKiwzKYWcyDMBCYovAEQEIEUSDAiIoFMJJMUlJSWXawGjKQg4Zsb4KH46CU/mq6E4n4xPwEyCGAFYE6U1CCk" +
            "aCpncAGxKzlbZ/9yqEUxeNRaC4nOqf7bDz7W9+KT",
        "KLUv/UQ9RAXMAgCVF6IgqNGc0AqMwBglmmAmyKkOIEZgFFM7kJ5JWgNQCv7xRtuEGdBwKrtBGa2YAgp5sxo+3IOvkyUYogo0BP0V" +
            "AQTj4/RoJSvRRB7tIUpXgMNE51t4rG0rUCUDAJ4OwA4ADNAVOgsBQOMBAOB/CAsACwAJANf7/PZfdu/nGn0Dn72qV1df+vf8/wH/" +
            "/79v7dvb72//j/99/ub/18EGoIAiE1n8WLDsARD2BOcDZL2pyZxTac4oGFRAWc8VblCmgQTvpJDC",
        "KLUv/QRBwgYAdCQBAFhRWZ18mPYrTclz2wao8FqeA2BMZIE98C7eAViS4E8Gmw+DDAAAAPUGADoUzAKOERERERERERApACkAKQBm" +
            "PYxyOOlf14PfOkNxWhJNKwv07eI5fKjVIPtn7Jwwec97fYm2fHpYHdFxxbAiWtvf9Z9LlaS8SjOuDg+c1vqOFDKwGNwQMqlpsIDI" +
            "Ti4vuQMZcwFV7L+bxI5vV/wmrHxLDS52EOt5iHUSQSoZBF1ljw6IC/JwPaag7xoVJuFmF6LK59Y1C3bmDQYf0jc6jx22vtGr1d3L" +
            "57sTO6Jt8s67/MN6AQuIECQBEpB4KKKAyA5Q+fwMGa4UsW4P8GAxkzkwNntY4Y1pv7SfLjPSDBc=",
        "KLUv/QRaSgoA8s0BAJJDCBCQGRTSAUlu0v4D/8/MzIyKs7BmTVwvOzMkJznQtxMlAgKgFKCAAf/PfxPwBP4Df4hkxRkECEzTPBk=",
        "KLUv/QRKoAAANijgkXipw7yiXjgkD3uxCUcI0EgkAQBYN00/0bpRZxqhAAsJiBCD7AGQ0gdOia7wuaFEKi5XFJO1HAqtBAAOA8AK" +
            "AI4REREREREREAcABwAHABpTY9FW+gG0Bu+j9BMBwwiktd0uAZJhbXpsBwEwoPDyPCBIRJA7TgAUQ+ZgokBRAH5QI/gK6F83AscQ" +
            "AAMvAaAFYiGAwDOgASpAXzArAHFA7VoJiCjkIAygDtwEkwXcAlYBSMCnAL8AHyAPkMAGkBFwGogDWwx4QGuAEMAooABqBPaLYJE=",
        "KLUv/cRY+QEAAAAAAADtBgCWkRsYsBUU0gEHSYE/KSgnRaGkwF8KnIZTeBEBEgAUABUA8yTTKr2JO3soSl4xlWPteAG4M6xIk1dc" +
            "3AlX5RwWNCrhA8yMbw3XLA6JBhkCKA+50X+2iROtEim7MgU7h7H0kK/kxkNfs41LUmqkQDEAAS6oASGjTAVEEigpVIYDIIYIxkkf" +
            "kJBW2g4I/6u01MRmzI+cAgucuh4u8EUXmBykPggBfv8jnzBtYBBcJ9IoJS8WRmOMMMJzzGKxmH9lkmEwNRDJ5EFsd/nUQhJ6/XOg" +
            "HaW9kps4F+5XkrAoAU8uo2o=",
        "KLUv/QQTrAAAaHmiAEz90OYvFIyoI0ACAC8LFLgvAAAAmgQAk3EBAD0iQ5OTk/gFhqwzk5OTk5OTk5OTk5MRPXO5Y37xD6OI8mh4" +
            "1G4Nk5OTXigj10qf/PD1",
        "KLUv/WQYAKQEAC4HgBsAJ5Ap6Xk4e5b8HTufwtBex9B+Bx7uOXuW/B07n8LQXsfQXscYfocCAREAEQAQAPnlINsWW8XZtaDUgWuT" +
            "JwgDqVBJICKcyUW50mrBf+fcngpYrFHQTunaaC+rx4PcAqYG/i3myvgilLiVPya/mLwGqIBMrMVnGQsHEDAtsGAHYIIWa8HyHosA" +
            "kSdwzv9jJ+QdAgBuBIANAI4REREREREREAoACgAKAEXY5DIzOjcoHgGMp14DxwpMR3oBC6ZJ6ffuIcEWAbL+m/3rrSkOAQIQBQ5R" +
            "oM1nsAKT2A==",
        "KLUv/YRCpwMAAI0KAB4SQCsAI4ApSQedCyA7n8+H/HTlp2sfbl+dyxIPzgtTckBM1z7cvjACJAAgACEAB30N5WSTpeR6qFSPONh8" +
            "0KuqPUiJc2Tyg4e3rcYrD7agHzqxl277HlaQ7vfdUShphcg4rgWUGZ1KLNVuaukV6Ru/NBLswwbJVH1ccXhpfMxiRcj3PAqn3aUv" +
            "IRrEkeTxpqH3iRfk/aLnd+U6YhAf6Lcfi6Z7+BdBs8XedR7VbRlEhQE5iIEgaKlBMmJBUjghDIk5JNLMjEhLClIoTXNuRTB3mqtE" +
            "XEGimyc75BsC9VTEizYRkRHYN+v/nZjEDTDZCcGcXt4JeYCbTgt5yRYW2Zb87gyyrKvwngh2lETI7Rm9gjJFV2CNV5YCVqSxfUAW" +
            "a2yOtOEEVU/aoIOpemDlwFZLG7/HvJNwbL44rWkFMCN6Qci1quw7fGUIKlknH4sDdF5gZBUK",
        "KLUv/UQ1bgBcAgBaBNQAjhEREREREREQCgAKAAoAxK34MkeMEqqBAZXHdT5f0D6oUQF24B2qC3atJh0BihZc9yR3chACKBNQ4D8U" +
            "gIAB//cfUgTAAAvYAQDKdM/xUXVCkz8JGX9Stl0RVRnUFH551pDeqRzkrZMpqRecuVT1QeivjZyyJZfbAMYV73+FiCe2amntXsQC" +
            "ADoGOAEggBUUJEkHK0L09DEAqvLQjAbYERAnImBGHtUZnXNCYAEJAAkADAAJAtSWkT4lBowB0GIlWcDFgUUdKAkBwAQbBAhxGAFF" +
            "osIZnAOihCYBVAAFACk4AQCA6fKhXEt8X/yS2KDNy9OY3TqK41BzEwJqdxRdvlJOA6g3NozjCic6AgCjAQAAZYqq4A==",
        "KLUv/aTJAAAAdQMAWgcIARmQJQVJB7+uooPG5ExnRFRrX19cffXVV9/RCAAIAAoAVw8tdVKUP1DLc6kr3IhUFoN0Ix2wmEWpsAVN" +
            "bJ8GhoI6lgyIcAhRSIHlJQ8QWCnIwL4DYCBO8R8+8dj6pehERCFMKAOltN0hFx+IxmR2",
        "KLUv/QQjLAcApAmywb3JuQBvGJuqVFDDwZBdRHJfUmfhK5sEerk6Us42GAHKTX969mFwW2X9Fhc5m13a8gE5uI51brd0n1ELQbx8" +
            "UzZfsUkNjImhWO4Qa/nHJqObcEqDEOjzPZW/Nv49KpmmWiaHake+Rzo/4XZvZZWYZnrqvPkeikJrH/3qTeQSXsKyzLX17YMZCiqk" +
            "/N8m5FzT8uo2jP2AzLwIHKhgBqqgpqAgSQcQGGUM1gOQzJUa0gExlAEENzBSu5lzwCYjcCOZodBC70aVeNNfokFpfS7GGv0Er8cC" +
            "6B0yAVF1sMG/0Qe/MiMDAEsLUFT9",
        "KLUv/WTEAt0IAMAv7P2OURhPC5ZIZMYXz+kBNVeHTbtQJqpyKDCGECmGd3EkTDJlSkgoSZIaywFCUiEgCOhRRv5co8DIZXS5AAiC" +
            "fwt8CXqgL9vQIcAyDe8c4GigQgS4sIQRrQCABKAbQChIzguQiRhCNVDw64MlsDmRuMA5t35hI4ZPC+jBleFm4WCD6HwYoB+kEaIC" +
            "ucEbhBEXMD1AssJMA31o1K2kgP7pVCPOQkgFiLoJPziUBVg9w3vApgCJgagGADgrARsB5QFkLwQjYhyY4KCiATENCrAyAQDmPAbP" +
            "ViFJBCQP0g4dFjb60CXMW9AUXBZcLQwWWGnQgmaCWQGACRBoEZA5QCvhVoDHvpofO+gyj2KFZwWUQcsFKkDAqQIQvwKPSAGn",
        "KLUv/QQtTQoAsL00s7tq/i7hZBNDfQxWcAED9xNR+siA6KjQPSCIEEJ2PoDbAdCJEHszzQZ6ywnb4OSkOkkQ0CTSIY3Kn7P4QQyq" +
            "V83LlFcU6ykqEva9YWD4YeiCEgdiKXSqfostJJIUQOAZ3ENaLEgGvAIxMkFDSRj7twbGTkQmontvccpIjJEmM4cJXR5mjEjZz07b" +
            "2pbviOXjiXHSJre9yvuvyHgWETjE84ZBFdIQpbRXLrn/fXwjC0zkrFm2OMBj5T9bB8GoA0mjg6ikh/MxHZzgaWEXCWlPAtRnc+YU" +
            "tigXcqeRYNhouQYcLG8QqwMmyWNKeyI7ri5V4BJuQepNBMqViCIzRt1Fldg9kbMVOXyRUaC9Izdo6qjFdPRjEB90s21wJnikt20i" +
            "OVOjbFRTrQyFBKDLIKvQA0Fpr5olS3VPDwDMuKbEYE6dcXIUxEk5AQuS",
        "KLUv/aQHBAAAXAMA1gIKFaClIOmfq6qqAqSiC0M3AACAg2Z0AQQAAwADAM0RjwHZ0Q/rnAv9DRyIgOwcNgOQTp2Cwmpl30vxKyPM" +
            "SIWEbEaAYwiPVg6CKiV0u2HxvFY0Qw4DhO4KDggsF/VzsySnF1NUINyHORY0AwDuFkATAA7QpQNEBRGFAioA0IC5Ag0ADgAPAP3/" +
            "/e2f//+/93+//3/37//7e3/f9///+ve/BLf7f/71p70+/+fd/fi+fu/t/7/8/+3v8f9+/7sHBSwQODHvAU+AAA65SSkyGXHYGQMd" +
            "AwDvFUAPAA0ADwAOAHfvf/v/+f6/vf///xu90ffv+vO5//6bT7/+vQf//7vc+v/3O3ve+/nfD/39Lv//3f/tf+pv/78JgFBiSlzF" +
            "V1HtAdALLkpDdncYdDy8477ITnwWCWB5zRDWKLJV",
        "KLUv/QRfvQUA1tUUD7Al6QfX6ShgJUmSJElFBQ8AEAAOANXz+XXmr637Zf33733/H/v/ztt0r3/9Pv/9n0mxlgb/n7XWff7Fv3//" +
            "v33+e98r1t/70nPsS2X7Pef9twcdgECSEIkE0aLSglbGE4eCaumCQyDhdr6aGwhhfi+L0wEZtkFyTuDCxK9s5o1zvt6SYNOA1Rfl" +
            "GA9aOFooMp2OQoafUpxHawags1gJoZzwynh8on/hI41kdbkQEaTtkk4GZeqvoA==",
        "KLUv/cQEugQAAAAAAADUBAD+A4AMAI4REREREREREAkACQAJAB9wA6jD+xprAaTi2utx/e5XAZg36i/WnYvoARAKWRD/zLAeLgiQ" +
            "VK02YRuQ7ZtZ8TFfYMZjyO9ZjIAaAGgAn0nCsMIMCGWILxGMhY0XmwGMjyrFLsMz4DpwQsXj0AacOAReGeSEr743m7A1XDGCN/Mg" +
            "U/zS4ckNddAU7GxcD2ZEy7A7oDosfAQALhSAGQAYkCUFSQf///lBdndNy5nZ6cTuHizf3f6WEQARABQAa/mlGxq3hXfFw+ZZ//22" +
            "1wX1Sn/vGMJysKuLbLb573rqfQeyBu0t0sszfdZtG9ip1FC4JJ7mye3fS6eTuGv/qn1ZxweubQIGqJBiTtzlnzsQ9t0DEECBiTHL" +
            "Wf45Ct/PHxo+j83y5rSvaw9CDQD9lQEAuwNUAAQAAwAEAIsj9Bf3y2n/wSkUPX9gAQMoE/AF/gMUgFYBz6rAzz/4gXsBpSjkAQoe" +
            "P53g",
        "KLUv/QQktAMACgYMAY4REREREREREA0ADQANACgGwGMp2j7ENHQQkAH4HzMbF+wEk/hFYioB68xRumHbrRo0XhYQAXXOjHb/fz8I" +
            "aDvMwQESoHCmpmYqs2Y1UKKyelPDurwXIAVWGiAQ5LLavDUPQBcQgovC/au2jgAOgOOaLHwCADD/4RPJhHchgNA9OTA1oH7bJ2a0" +
            "uqE0+yKaIfQrZ4E1sCBo+bdGsyJjr2AtYUyopSO7MuRgABzHx2jNXtUsqxgy27NNSGR4kO9Xv8ZA+AECAAC+UwgAerkQ4sM=",
        "KLUv/QQ6fAMAhARDOwlZi3KPgm/nCEBE3+82uh3lyAYAoOXxk16Yx7omEDy5EGHwQ06zF61d3QYCHXe25fabEFrtRJv/OUJ+Xz2H" +
            "3Ufp1Y8RwDIEqBQo4H8CBf4DcxXIKuAPFCjgL1DA/7+Bgf4BmAlY5C8fcGwg3AIAzgTACwAWsBWk0AEMbs0hjHIoNIVGU/A0RRN1" +
            "AQUABAAFAP9Fs+ABd/rfAs/YZKcF/95xBQyogAITWECRIhkHEI6k+5D4Ab/Kuc6BcdRkid0X6VO+8dHEXtjuA4gAALsf5ianmxrU" +
            "MlHVn7fahIJ6tAAAAY8GaAAQMqGxD/DuDiHhyoNOgHJXBAIAAH8DAABXI6/rsA==",
        "KLUv/YQt5AAAAGUCAIoCkAAUoCVJBwP/f3r6/+qqKgGqmuCoHgYCAAMAAgB7H8cfAfM313UEqBTgAgUYKDDQPxPQVQCrPxTg31YB" +
            "P6sC//4DTngiJXidNhDYGDWD",
        "KLUv/UQaQgBMBADKDfwBjhEREREREREQHAAcABwAbSmSY6/20RcYHlAu5BJT5evsghXe4J2by+Y9G4GTz3ARYtaG8UKxmGUW/tuL" +
            "0MawpgDNQFB31RsDINejg7aJqjuXfIQyBvvYxtC3pbEkzrk2N3QduJL9T/JlAcZX+RKrofHiCsR4c0NI55yNJwNGEwFUAQAIAdkC" +
            "AMSHJ4N8B7bz0bUkhTCnNXMaJXi9g57YBUDXPLyOXiGq6byLKLsM7tgOgqnLb4DiBwpXQvSVdQpp6BQZ9NI1mo8teOVJuVCV6rak" +
            "sJymWs3Gis+L40ETJxTEVroFDeee",
        "KLUv/QQszQMAvgqADAAO0KUxAAgAAABo0xbaWQIHAAgABwB//v/z+/8Bz8vJ9PPf/Fu/+f/fO/8H/73z/2+8Dw+okGaiiZmZNAuN" +
            "xTBKMDPrDhAagRGMEIUTzQSTd3KLCwcOZBf6HXgyvlCjoj++pWpVaFwXwZLxK5LGDCQ6NrEKDGlwTB8=",
        "KLUv/QRHjQcARtU2JZAp6Y9z6Xwp0q3rKoELowuQbl1X6cboAtL50lW6MbqAdL5U5FQsACoALQDWSqiL2KyXG8//Y8zfP+N8M2aK" +
            "pgf9L4Rso3/eQUzSQcIbep9IqRvzG89VAafi4DHDYy5J7sbQi2IbqiGJjMpPyN/GZ6V/FlGxRhqaPZl9Ldkj188sAeZjPOeaXVYi" +
            "NOjYGaE3Du7120lMw0ReFJSwwT3m57/JYWRV3+tlWitgbeZ9AQsDTLurc47e5nOyKGzRGZsNv1iONkfXQg44pX5j6b/rQPxtkKnd" +
            "qO77pvcCBSgQJqV8sA/rL97yXpLRp1IkpAUKDGk="};
    private static final String FLUSHED =
            "KLUv/QRozAcAQocVEaBvIDdX1xJz3PJJiAm4qA4T/u5ZmXKQ/Xl9JU+O/ZPj4J8VGGx2/Laf3l+02e47K9u2QVbYq2c1fQb7Tdhs" +
            "9hu8bfA1ZG026tMnCO2zAtgrfNBkqi5SqBDLJCksYyCEGMTkeRAQY0mNheq/5J2JPVV1xk/JZTF2YoEQ1v4E8RmjyYnnj/3eJ+mQ" +
            "dtL2BjAVsuMD1hAYkwGAWP0JphcG3iCTOiAijFT4HaJDxqenenbgITzT1YSeuczdcDGSopskj3LXpGrVJ+FEIsYmiPMGxpZGOiYK" +
            "lHqN8NTTC5yVoWRVAft/fXjtlL1choS46StdDAhTkn53hAUAY0ED2KunlFXKbtu2f9t2HFuswDsgAmKQUmY3OWmVxYRauVIXS9v1" +
            "blODADlvRg8VJxicK1nOdIPNq7nMGHXa/8XysKUS0iLCmjs+RJENiWV2fQHGhToeWLeOgvkhCTNWfoRSE3OQWYfSq/s+wE6peI8Z" +
            "DKoYUoovXsb6iJxXOMp8fE6wjiQej5JV+RZdsdawP8sixKkLYdFcUwRbcE/Qe4ZXtUqOYVabwRIZyDf7KI7cBQB4aXdhYW9ub3Ro" +
            "aW5nb2lzWqjQZzMghBhSzMo2ETAEfAEkLVQQS40OLouNpFZv/KByRcHryT9xn1xIcbwAsNRJR2CDSH2CLSgCldaR+VHuWyCkQKfY" +
            "Pt2tTc1AWVzkFnOMIgI1T6R6LNGNX0CFrnAJhY+hEle0Mju0e+PWg7f4VXiF48Vot7IIfqc+gb3HORB0WNba3PltYFDUKItmMB+0" +
            "TqixcWZiVPxiK/KxF9vxI8g9Kk3Xko1TfFQBDAUAMGJ5d29hc1H4ESAETIEUoIEqWGM4IWr8iEm4sggS2Eq3P+l+teSwNVvmb4E0" +
            "W3Cmxl3tfIRVufvrPZElymbT1UkLdKxYEMkBVSP9CsLXoQs4FqhkDUjBksDwULOFU3ckM3pLf5GtoFm5Uh4UEVdCB5G7lBNmIwNs" +
            "vWSCLUxsq4f+gMjZgi/bQ3B3CCjyI/0KrBBQquyPf77Smv9bi/hKbxDlBAAQYXdO+BHoBJSwAhXGSrEYhJgCX6FOr/qdl9NGlKqz" +
            "7M1bVEvxT8FjVPhw6RWd/kJEpKeZli6VRBUmhFEr6FuL0zQCMFqYWBUhq7M+ZYI7lpEMHMEPC6FWMCrAEW2f/fTthQ01FQh2OLlm" +
            "dDVIi4DXqnFcA4ZYkaMKc/5aEfMCAq6WBptINaAMoe2c1WdhTXU7EjgJH8miFakloDTI7Vbx";
    private static final String DICTIONARY =
            "N6Qw7JV3xy0lEMiSJB3///////8P9sXIxLSEA0k+2YzEWkMaIJyt8/wYEUIIBVMAABQgPFhINCgOAAAEwAUGR4WUFBLuAzmGkCEA" +
            "AAAAAAAAAAAAAAAAAAAAAIT59owCAAAAAAAAAAAAAAAAAAEAAAAEAAAACAAAAG5lZCBpcyBlbmQ7IGJ5IHRoZSBpcyBpcyB0aGUg" +
            "dGhlIGJ5dGUsIGZyYW1lLCBieSBpZSB0aGUgdGhlIG5vbmUgdG8gcm93IGVuZDsgcm93IHRoZSBmcmFtZSBpdHMgdGhlIHJvcGVu" +
            "ZWQgdG8gYnkgZW5kOyBub25lIGlzIGNvdW50cyBpcyBub25lIGJ5IHJvdyByb293IHJvdyByb3cgdGhlIGl0cyBlbmQ7IG9wZW5l" +
            "ZCBieXRlLCB0aGUgZnJhbWUgZmluZSBub25lIGJ5IHRoZSB0aGUgdG8gZmluZS4gYnkgZnJhbWUsIGlzIHRoZSBpcyBvcGVmcmFt" +
            "ZSB0byB0aGUgdGhlIGEgZmluZS4gaXMgZmluZS4gZnJhbWUgbm9uZSB0aGUgZiB0aGUgdGhlIHRoZSBpcyByb3cgYnl0ZSwgYnkg" +
            "b3BlbmVkIGZyYW1lIGlzIGlzIHRoZSBlbmQ7IGZyYW1lLCBieSB0d28gcm93IHRoZSBoaWdoZXN0IGl0cyB0aGUgdGhlIGJlIGZy" +
            "YW1lLCBpcyB0aGUgdGhlIHJvdyBpcyBpdHMgaXMgaXMgb3BlbmVkIHRoZSBmcmhlIGl0cyBpcyB0aGUgZnJhbWUsIGZpbmUuIHJv" +
            "dyB0aGUga2luZDogaXMgYnl0ZSwgdyBub25lIGtpbmQ6IHRoZSBpcyBmcmFtZSBieXRlLCByb3cgdGhlIHJvdyBlbmQ7IHQgcm93" +
            "IGNvdW50cyBmaW5lLiBvcGVuZWRvcGVuZWQgYnkgaXRzIHJvdyBmcmFtZSBiaWVuZDsgaXRzIHRvIHRoZSBpcyBmaW5lLiBieSB0" +
            "aGUgdHdvIHJvdyBub25lIGZyYW1lZnJhbWUsIG9wZW5lZCB0aGUgb3BlbmVkIG9wZW5lZCBlbmQ7IHRoZSByb3cgdHdvIGJ0aGUg" +
            "YSBoaWdoZXN0IGJ5IG9wZW5lZCBub3RoaW5nIHR3byB0aGUgbm9uZSB0aGUgYnMgZnJhbWUsIG5vbmUgb3BlbmVkIGl0cyBpcyBp" +
            "cyB0byBvcGVuZWQgdGhlIHRvIHRvIHRoZSBub25lIGJ5IG5vbmUgaXRzIGJ5IGZpbmUuIHRoZSBvcGVuZWQgcm93IGl0cyAgdG8g" +
            "aXMgdGhlIGZpbmUuIGZyYW1lLCBmcmFtZSB0aGUgYnl0ZSwgcm93IGJ5IHRoZW9uZSBieSBpcyB0aGUgdGhlIHJvdyBieSByb3cg" +
            "dG8gZnJhbWUgZnJhbWUgcm93IHRodGhlIGZyYW1lIG9wZW5lZCBpcyBieSB0aGUgYnkgYnl0ZSwgdGhlIHRoZSB0aGUgb3BpcyBp" +
            "cyBmcmFtZSBpdHMgb3BlbmVkIG5vbmUgcm93IHJvdyBmcmFtZSwgcm93IGlzIG9wZW5lZCBmcmFtZSB0aGUgaXMgdGhlIGl0cyBm";
    private static final String WITH_DICTIONARY =
            "KLUv/WeVd8cthAKlBQAwaWFpYWFhXbzwDWGqSkJrO0/7OoZRbLnAWwbQaGe/BBl63ITk2JnvgJwHhiiEocNaNFQ/bwIfUZLBN1Fo" +
            "bUgebOCCc+aAf+AAoqjM/+Glk9Kn4T6euMKfeoShkZqLdvN9lyI7j6OlGGLvg9VXbyoOdnGI1r1z+JtuClA6hMI26GHKD05ZhLwG" +
            "ySGFrKD/ynj+W/SkjpWkgAMz5N5oWq70s36iWIY3n5C123jTfoBpIumkmwxUJ0Cq";
}
